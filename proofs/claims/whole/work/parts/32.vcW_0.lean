theorem vc_X8_isWord_s0_0 {call : Nat → List Value → ab_S → Option Value → ab_S → Prop} {ro : ab_E} {Q : Option Value → ab_S → Prop}  (mi : Nat → Nat → Int32) (ml : Nat → Nat → Int64)
    (h : (((mi 2 3) = 2) → (∃ (r3 : Int32) (mi1 : Nat → Nat → Int32) (ml2 : Nat → Nat → Int64), call 244 [.ref 1000000] (ab_G mi ml) (some (.int r3)) (ab_G mi1 ml2) ∧ (((((mi 2 5) - (mi 2 4)) = r3) → (ab_W call ro 0 0 (ab_lk2 pl_X8_isWord) Q (28, [some (.ref 2), some (.ref 1000000), some (.int 0)], [], 0, 0, (ab_G mi1 ml2)))) ∧ (¬ (((mi 2 5) - (mi 2 4)) = r3) → (Q (some (.int 0)) (ab_G mi1 ml2)))))) ∧ (¬ ((mi 2 3) = 2) → (Q (some (.int 0)) (ab_G mi ml)))) :
    ab_W call ro 0 0 (ab_lk2 pl_X8_isWord) Q (0, [some (.ref 2), some (.ref 1000000), none], [], 0, 0, ab_G mi ml) := by
  refine ab_wk 4 (f' := (if (mi 2 3) = 2 then 8 else 24, [some (.ref 2), some (.ref 1000000), none], [], 0, 0, (ab_G mi ml))) rfl ⟨trivial, trivial, trivial, trivial, trivial⟩ ?_
  refine ab_wi (fun c => ?_) (fun c => ?_)
  · have h := h.1 c
    obtain ⟨r3, mi1, ml2, hc, h⟩ := h
    refine ab_wc 7 (c := 244) (as := [.ref 1000000]) (pc := 21) (ll := [some (.ref 2), some (.ref 1000000), none]) (st := [.int ((mi 2 5) - (mi 2 4))]) (c1 := 0) (s1 := 0) (g := (ab_G mi ml)) rfl ⟨trivial, trivial, trivial, trivial, trivial, trivial, trivial⟩ hc ?_
    refine ab_wk 1 (f' := (if ((mi 2 5) - (mi 2 4)) = r3 then 26 else 24, [some (.ref 2), some (.ref 1000000), none], [], 0, 0, (ab_G mi1 ml2))) rfl ⟨trivial, trivial⟩ ?_
    refine ab_wi (fun c => ?_) (fun c => ?_)
    · have h := h.1 c
      exact ab_wk 2 (f' := (28, [some (.ref 2), some (.ref 1000000), some (.int 0)], [], 0, 0, (ab_G mi1 ml2))) rfl ⟨trivial, trivial, trivial⟩ h
    · have h := h.2 c
      exact ab_wr 2 rfl ⟨trivial, (Or.inl rfl)⟩ h
  · have h := h.2 c
    exact ab_wr 2 rfl ⟨trivial, (Or.inl rfl)⟩ h
theorem vc_X8_isWord_s0_28 {call : Nat → List Value → ab_S → Option Value → ab_S → Prop} {ro : ab_E} {Q : Option Value → ab_S → Prop} (y2 : Int32) (mi : Nat → Nat → Int32) (ml : Nat → Nat → Int64)
    (h : ∃ (r6 : Int32) (mi4 : Nat → Nat → Int32) (ml5 : Nat → Nat → Int64), call 244 [.ref 1000000] (ab_G mi ml) (some (.int r6)) (ab_G mi4 ml5) ∧ (((y2 < r6) → (((((mi4 2 4) + y2) < (mi4 2 2)) → (vp_in ((mi4 2 4) + y2) 1000 ∧ (∃ (r9 : Int32) (mi7 : Nat → Nat → Int32) (ml8 : Nat → Nat → Int64), call 245 [.ref 1000000, .int y2] (ab_G mi4 ml5) (some (.int r9)) (ab_G mi7 ml8) ∧ ((((mi4 3 (((mi4 2 4) + y2)).toNatClampNeg) = r9) → (ab_W call ro 0 0 (ab_lk2 pl_X8_isWord) Q (28, [some (.ref 2), some (.ref 1000000), some (.int (y2 + 1))], [], 0, 0, (ab_G mi7 ml8)))) ∧ (¬ ((mi4 3 (((mi4 2 4) + y2)).toNatClampNeg) = r9) → (Q (some (.int 0)) (ab_G mi7 ml8))))))) ∧ (¬ (((mi4 2 4) + y2) < (mi4 2 2)) → (Q (some (.int 1)) (ab_G mi4 ml5))))) ∧ (¬ (y2 < r6) → (Q (some (.int 1)) (ab_G mi4 ml5))))) :
    ab_W call ro 0 0 (ab_lk2 pl_X8_isWord) Q (28, [some (.ref 2), some (.ref 1000000), some (.int y2)], [], 0, 0, ab_G mi ml) := by
  obtain ⟨r6, mi4, ml5, hc, h⟩ := h
  refine ab_wc 3 (c := 244) (as := [.ref 1000000]) (pc := 33) (ll := [some (.ref 2), some (.ref 1000000), some (.int y2)]) (st := [.int y2]) (c1 := 0) (s1 := 0) (g := (ab_G mi ml)) rfl ⟨trivial, trivial, trivial⟩ hc ?_
  refine ab_wk 1 (f' := (if y2 < r6 then 36 else 76, [some (.ref 2), some (.ref 1000000), some (.int y2)], [], 0, 0, (ab_G mi4 ml5))) rfl ⟨trivial, trivial⟩ ?_
  refine ab_wi (fun c => ?_) (fun c => ?_)
  · have h := h.1 c
    refine ab_wk 7 (f' := (if ((mi4 2 4) + y2) < (mi4 2 2) then 49 else 76, [some (.ref 2), some (.ref 1000000), some (.int y2)], [], 0, 0, (ab_G mi4 ml5))) rfl ⟨trivial, trivial, trivial, trivial, trivial, trivial, trivial, trivial⟩ ?_
    refine ab_wi (fun c => ?_) (fun c => ?_)
    · have h := h.1 c
      obtain ⟨p0, h⟩ := h
      obtain ⟨r9, mi7, ml8, hc, h⟩ := h
      refine ab_wc 10 (c := 245) (as := [.ref 1000000, .int y2]) (pc := 65) (ll := [some (.ref 2), some (.ref 1000000), some (.int y2)]) (st := [.int (mi4 3 (((mi4 2 4) + y2)).toNatClampNeg)]) (c1 := 0) (s1 := 0) (g := (ab_G mi4 ml5)) rfl ⟨trivial, trivial, trivial, trivial, trivial, trivial, p0, trivial, trivial, trivial⟩ hc ?_
      refine ab_wk 1 (f' := (if (mi4 3 (((mi4 2 4) + y2)).toNatClampNeg) = r9 then 70 else 68, [some (.ref 2), some (.ref 1000000), some (.int y2)], [], 0, 0, (ab_G mi7 ml8))) rfl ⟨trivial, trivial⟩ ?_
      refine ab_wi (fun c => ?_) (fun c => ?_)
      · have h := h.1 c
        exact ab_wk 2 (f' := (28, [some (.ref 2), some (.ref 1000000), some (.int (y2 + 1))], [], 0, 0, (ab_G mi7 ml8))) rfl ⟨trivial, trivial, trivial⟩ h
      · have h := h.2 c
        exact ab_wr 2 rfl ⟨trivial, (Or.inl rfl)⟩ h
    · have h := h.2 c
      exact ab_wr 2 rfl ⟨trivial, (Or.inr rfl)⟩ h
  · have h := h.2 c
    exact ab_wr 2 rfl ⟨trivial, (Or.inr rfl)⟩ h
theorem vc_X7_takeWord_s0_0 {call : Nat → List Value → ab_S → Option Value → ab_S → Prop} {ro : ab_E} {Q : Option Value → ab_S → Prop}  (mi : Nat → Nat → Int32) (ml : Nat → Nat → Int64)
    (h : (((mi 5 1) = 0) → (∃ (r3 : Int32) (mi1 : Nat → Nat → Int32) (ml2 : Nat → Nat → Int64), call 86 [.ref 2, .ref 1000000] (ab_G mi ml) (some (.int r3)) (ab_G mi1 ml2) ∧ (((r3 = 0) → (∃ (mi4 : Nat → Nat → Int32) (ml5 : Nat → Nat → Int64), call 67 [.ref 5, .int 1] (ab_G mi1 ml2) none (ab_G mi4 ml5) ∧ (Q none (ab_G mi4 ml5)))) ∧ (¬ (r3 = 0) → (∃ (mi6 : Nat → Nat → Int32) (ml7 : Nat → Nat → Int64), call 85 [.ref 2] (ab_G mi1 ml2) none (ab_G mi6 ml7) ∧ (Q none (ab_G mi6 ml7))))))) ∧ (¬ ((mi 5 1) = 0) → (∃ (mi8 : Nat → Nat → Int32) (ml9 : Nat → Nat → Int64), call 67 [.ref 5, .int 1] (ab_G mi ml) none (ab_G mi8 ml9) ∧ (Q none (ab_G mi8 ml9))))) :
    ab_W call ro 0 0 (ab_lk2 pl_X7_takeWord) Q (0, [some (.ref 5), some (.ref 1000000)], [], 0, 0, ab_G mi ml) := by
  refine ab_wk 3 (f' := (if (mi 5 1) = 0 then 7 else 28, [some (.ref 5), some (.ref 1000000)], [], 0, 0, (ab_G mi ml))) rfl ⟨trivial, trivial, trivial, trivial⟩ ?_
  refine ab_wi (fun c => ?_) (fun c => ?_)
  · have h := h.1 c
    obtain ⟨r3, mi1, ml2, hc, h⟩ := h
    refine ab_wc 4 (c := 86) (as := [.ref 2, .ref 1000000]) (pc := 15) (ll := [some (.ref 5), some (.ref 1000000)]) (st := []) (c1 := 0) (s1 := 0) (g := (ab_G mi ml)) rfl ⟨trivial, trivial, trivial, trivial⟩ hc ?_
    refine ab_wk 1 (f' := (if r3 = 0 then 28 else 18, [some (.ref 5), some (.ref 1000000)], [], 0, 0, (ab_G mi1 ml2))) rfl ⟨trivial, trivial⟩ ?_
    refine ab_wi (fun c => ?_) (fun c => ?_)
    · have h := h.1 c
      obtain ⟨mi4, ml5, hc, h⟩ := h
      refine ab_wc 3 (c := 67) (as := [.ref 5, .int 1]) (pc := 33) (ll := [some (.ref 5), some (.ref 1000000)]) (st := []) (c1 := 0) (s1 := 0) (g := (ab_G mi1 ml2)) rfl ⟨trivial, trivial, trivial⟩ hc ?_
      exact ab_wr 1 rfl trivial h
    · have h := h.2 c
      obtain ⟨mi6, ml7, hc, h⟩ := h
      refine ab_wc 3 (c := 85) (as := [.ref 2]) (pc := 25) (ll := [some (.ref 5), some (.ref 1000000)]) (st := []) (c1 := 0) (s1 := 0) (g := (ab_G mi1 ml2)) rfl ⟨trivial, trivial, trivial⟩ hc ?_
      exact ab_wr 2 rfl ⟨trivial, trivial⟩ h
  · have h := h.2 c
    obtain ⟨mi8, ml9, hc, h⟩ := h
    refine ab_wc 3 (c := 67) (as := [.ref 5, .int 1]) (pc := 33) (ll := [some (.ref 5), some (.ref 1000000)]) (st := []) (c1 := 0) (s1 := 0) (g := (ab_G mi ml)) rfl ⟨trivial, trivial, trivial⟩ hc ?_
    exact ab_wr 1 rfl trivial h
theorem vc_X8_isWord_s1_0 {call : Nat → List Value → ab_S → Option Value → ab_S → Prop} {ro : ab_E} {Q : Option Value → ab_S → Prop}  (mi : Nat → Nat → Int32) (ml : Nat → Nat → Int64)
    (h : (((mi 2 3) = 2) → (∃ (r3 : Int32) (mi1 : Nat → Nat → Int32) (ml2 : Nat → Nat → Int64), call 244 [.ref 1000001] (ab_G mi ml) (some (.int r3)) (ab_G mi1 ml2) ∧ (((((mi 2 5) - (mi 2 4)) = r3) → (ab_W call ro 0 0 (ab_lk2 pl_X8_isWord) Q (28, [some (.ref 2), some (.ref 1000001), some (.int 0)], [], 0, 0, (ab_G mi1 ml2)))) ∧ (¬ (((mi 2 5) - (mi 2 4)) = r3) → (Q (some (.int 0)) (ab_G mi1 ml2)))))) ∧ (¬ ((mi 2 3) = 2) → (Q (some (.int 0)) (ab_G mi ml)))) :
    ab_W call ro 0 0 (ab_lk2 pl_X8_isWord) Q (0, [some (.ref 2), some (.ref 1000001), none], [], 0, 0, ab_G mi ml) := by
  refine ab_wk 4 (f' := (if (mi 2 3) = 2 then 8 else 24, [some (.ref 2), some (.ref 1000001), none], [], 0, 0, (ab_G mi ml))) rfl ⟨trivial, trivial, trivial, trivial, trivial⟩ ?_
  refine ab_wi (fun c => ?_) (fun c => ?_)
  · have h := h.1 c
    obtain ⟨r3, mi1, ml2, hc, h⟩ := h
    refine ab_wc 7 (c := 244) (as := [.ref 1000001]) (pc := 21) (ll := [some (.ref 2), some (.ref 1000001), none]) (st := [.int ((mi 2 5) - (mi 2 4))]) (c1 := 0) (s1 := 0) (g := (ab_G mi ml)) rfl ⟨trivial, trivial, trivial, trivial, trivial, trivial, trivial⟩ hc ?_
    refine ab_wk 1 (f' := (if ((mi 2 5) - (mi 2 4)) = r3 then 26 else 24, [some (.ref 2), some (.ref 1000001), none], [], 0, 0, (ab_G mi1 ml2))) rfl ⟨trivial, trivial⟩ ?_
    refine ab_wi (fun c => ?_) (fun c => ?_)
    · have h := h.1 c
      exact ab_wk 2 (f' := (28, [some (.ref 2), some (.ref 1000001), some (.int 0)], [], 0, 0, (ab_G mi1 ml2))) rfl ⟨trivial, trivial, trivial⟩ h
    · have h := h.2 c
      exact ab_wr 2 rfl ⟨trivial, (Or.inl rfl)⟩ h
  · have h := h.2 c
    exact ab_wr 2 rfl ⟨trivial, (Or.inl rfl)⟩ h
theorem vc_X8_isWord_s1_28 {call : Nat → List Value → ab_S → Option Value → ab_S → Prop} {ro : ab_E} {Q : Option Value → ab_S → Prop} (y2 : Int32) (mi : Nat → Nat → Int32) (ml : Nat → Nat → Int64)
    (h : ∃ (r6 : Int32) (mi4 : Nat → Nat → Int32) (ml5 : Nat → Nat → Int64), call 244 [.ref 1000001] (ab_G mi ml) (some (.int r6)) (ab_G mi4 ml5) ∧ (((y2 < r6) → (((((mi4 2 4) + y2) < (mi4 2 2)) → (vp_in ((mi4 2 4) + y2) 1000 ∧ (∃ (r9 : Int32) (mi7 : Nat → Nat → Int32) (ml8 : Nat → Nat → Int64), call 245 [.ref 1000001, .int y2] (ab_G mi4 ml5) (some (.int r9)) (ab_G mi7 ml8) ∧ ((((mi4 3 (((mi4 2 4) + y2)).toNatClampNeg) = r9) → (ab_W call ro 0 0 (ab_lk2 pl_X8_isWord) Q (28, [some (.ref 2), some (.ref 1000001), some (.int (y2 + 1))], [], 0, 0, (ab_G mi7 ml8)))) ∧ (¬ ((mi4 3 (((mi4 2 4) + y2)).toNatClampNeg) = r9) → (Q (some (.int 0)) (ab_G mi7 ml8))))))) ∧ (¬ (((mi4 2 4) + y2) < (mi4 2 2)) → (Q (some (.int 1)) (ab_G mi4 ml5))))) ∧ (¬ (y2 < r6) → (Q (some (.int 1)) (ab_G mi4 ml5))))) :
    ab_W call ro 0 0 (ab_lk2 pl_X8_isWord) Q (28, [some (.ref 2), some (.ref 1000001), some (.int y2)], [], 0, 0, ab_G mi ml) := by
  obtain ⟨r6, mi4, ml5, hc, h⟩ := h
  refine ab_wc 3 (c := 244) (as := [.ref 1000001]) (pc := 33) (ll := [some (.ref 2), some (.ref 1000001), some (.int y2)]) (st := [.int y2]) (c1 := 0) (s1 := 0) (g := (ab_G mi ml)) rfl ⟨trivial, trivial, trivial⟩ hc ?_
  refine ab_wk 1 (f' := (if y2 < r6 then 36 else 76, [some (.ref 2), some (.ref 1000001), some (.int y2)], [], 0, 0, (ab_G mi4 ml5))) rfl ⟨trivial, trivial⟩ ?_
  refine ab_wi (fun c => ?_) (fun c => ?_)
  · have h := h.1 c
    refine ab_wk 7 (f' := (if ((mi4 2 4) + y2) < (mi4 2 2) then 49 else 76, [some (.ref 2), some (.ref 1000001), some (.int y2)], [], 0, 0, (ab_G mi4 ml5))) rfl ⟨trivial, trivial, trivial, trivial, trivial, trivial, trivial, trivial⟩ ?_
    refine ab_wi (fun c => ?_) (fun c => ?_)
    · have h := h.1 c
      obtain ⟨p0, h⟩ := h
      obtain ⟨r9, mi7, ml8, hc, h⟩ := h
      refine ab_wc 10 (c := 245) (as := [.ref 1000001, .int y2]) (pc := 65) (ll := [some (.ref 2), some (.ref 1000001), some (.int y2)]) (st := [.int (mi4 3 (((mi4 2 4) + y2)).toNatClampNeg)]) (c1 := 0) (s1 := 0) (g := (ab_G mi4 ml5)) rfl ⟨trivial, trivial, trivial, trivial, trivial, trivial, p0, trivial, trivial, trivial⟩ hc ?_
      refine ab_wk 1 (f' := (if (mi4 3 (((mi4 2 4) + y2)).toNatClampNeg) = r9 then 70 else 68, [some (.ref 2), some (.ref 1000001), some (.int y2)], [], 0, 0, (ab_G mi7 ml8))) rfl ⟨trivial, trivial⟩ ?_
      refine ab_wi (fun c => ?_) (fun c => ?_)
      · have h := h.1 c
        exact ab_wk 2 (f' := (28, [some (.ref 2), some (.ref 1000001), some (.int (y2 + 1))], [], 0, 0, (ab_G mi7 ml8))) rfl ⟨trivial, trivial, trivial⟩ h
      · have h := h.2 c
        exact ab_wr 2 rfl ⟨trivial, (Or.inl rfl)⟩ h
    · have h := h.2 c
      exact ab_wr 2 rfl ⟨trivial, (Or.inr rfl)⟩ h
  · have h := h.2 c
    exact ab_wr 2 rfl ⟨trivial, (Or.inr rfl)⟩ h
theorem vc_X7_takeWord_s1_0 {call : Nat → List Value → ab_S → Option Value → ab_S → Prop} {ro : ab_E} {Q : Option Value → ab_S → Prop}  (mi : Nat → Nat → Int32) (ml : Nat → Nat → Int64)
    (h : (((mi 5 1) = 0) → (∃ (r3 : Int32) (mi1 : Nat → Nat → Int32) (ml2 : Nat → Nat → Int64), call 86 [.ref 2, .ref 1000001] (ab_G mi ml) (some (.int r3)) (ab_G mi1 ml2) ∧ (((r3 = 0) → (∃ (mi4 : Nat → Nat → Int32) (ml5 : Nat → Nat → Int64), call 67 [.ref 5, .int 1] (ab_G mi1 ml2) none (ab_G mi4 ml5) ∧ (Q none (ab_G mi4 ml5)))) ∧ (¬ (r3 = 0) → (∃ (mi6 : Nat → Nat → Int32) (ml7 : Nat → Nat → Int64), call 85 [.ref 2] (ab_G mi1 ml2) none (ab_G mi6 ml7) ∧ (Q none (ab_G mi6 ml7))))))) ∧ (¬ ((mi 5 1) = 0) → (∃ (mi8 : Nat → Nat → Int32) (ml9 : Nat → Nat → Int64), call 67 [.ref 5, .int 1] (ab_G mi ml) none (ab_G mi8 ml9) ∧ (Q none (ab_G mi8 ml9))))) :
    ab_W call ro 0 0 (ab_lk2 pl_X7_takeWord) Q (0, [some (.ref 5), some (.ref 1000001)], [], 0, 0, ab_G mi ml) := by
  refine ab_wk 3 (f' := (if (mi 5 1) = 0 then 7 else 28, [some (.ref 5), some (.ref 1000001)], [], 0, 0, (ab_G mi ml))) rfl ⟨trivial, trivial, trivial, trivial⟩ ?_
  refine ab_wi (fun c => ?_) (fun c => ?_)
  · have h := h.1 c
    obtain ⟨r3, mi1, ml2, hc, h⟩ := h
    refine ab_wc 4 (c := 86) (as := [.ref 2, .ref 1000001]) (pc := 15) (ll := [some (.ref 5), some (.ref 1000001)]) (st := []) (c1 := 0) (s1 := 0) (g := (ab_G mi ml)) rfl ⟨trivial, trivial, trivial, trivial⟩ hc ?_
    refine ab_wk 1 (f' := (if r3 = 0 then 28 else 18, [some (.ref 5), some (.ref 1000001)], [], 0, 0, (ab_G mi1 ml2))) rfl ⟨trivial, trivial⟩ ?_
    refine ab_wi (fun c => ?_) (fun c => ?_)
    · have h := h.1 c
      obtain ⟨mi4, ml5, hc, h⟩ := h
      refine ab_wc 3 (c := 67) (as := [.ref 5, .int 1]) (pc := 33) (ll := [some (.ref 5), some (.ref 1000001)]) (st := []) (c1 := 0) (s1 := 0) (g := (ab_G mi1 ml2)) rfl ⟨trivial, trivial, trivial⟩ hc ?_
      exact ab_wr 1 rfl trivial h
    · have h := h.2 c
      obtain ⟨mi6, ml7, hc, h⟩ := h
      refine ab_wc 3 (c := 85) (as := [.ref 2]) (pc := 25) (ll := [some (.ref 5), some (.ref 1000001)]) (st := []) (c1 := 0) (s1 := 0) (g := (ab_G mi1 ml2)) rfl ⟨trivial, trivial, trivial⟩ hc ?_
      exact ab_wr 2 rfl ⟨trivial, trivial⟩ h
  · have h := h.2 c
    obtain ⟨mi8, ml9, hc, h⟩ := h
    refine ab_wc 3 (c := 67) (as := [.ref 5, .int 1]) (pc := 33) (ll := [some (.ref 5), some (.ref 1000001)]) (st := []) (c1 := 0) (s1 := 0) (g := (ab_G mi ml)) rfl ⟨trivial, trivial, trivial⟩ hc ?_
    exact ab_wr 1 rfl trivial h
theorem vc_X8_isWord_s2_0 {call : Nat → List Value → ab_S → Option Value → ab_S → Prop} {ro : ab_E} {Q : Option Value → ab_S → Prop}  (mi : Nat → Nat → Int32) (ml : Nat → Nat → Int64)
    (h : (((mi 2 3) = 2) → (∃ (r3 : Int32) (mi1 : Nat → Nat → Int32) (ml2 : Nat → Nat → Int64), call 244 [.ref 1000002] (ab_G mi ml) (some (.int r3)) (ab_G mi1 ml2) ∧ (((((mi 2 5) - (mi 2 4)) = r3) → (ab_W call ro 0 0 (ab_lk2 pl_X8_isWord) Q (28, [some (.ref 2), some (.ref 1000002), some (.int 0)], [], 0, 0, (ab_G mi1 ml2)))) ∧ (¬ (((mi 2 5) - (mi 2 4)) = r3) → (Q (some (.int 0)) (ab_G mi1 ml2)))))) ∧ (¬ ((mi 2 3) = 2) → (Q (some (.int 0)) (ab_G mi ml)))) :
    ab_W call ro 0 0 (ab_lk2 pl_X8_isWord) Q (0, [some (.ref 2), some (.ref 1000002), none], [], 0, 0, ab_G mi ml) := by
  refine ab_wk 4 (f' := (if (mi 2 3) = 2 then 8 else 24, [some (.ref 2), some (.ref 1000002), none], [], 0, 0, (ab_G mi ml))) rfl ⟨trivial, trivial, trivial, trivial, trivial⟩ ?_
  refine ab_wi (fun c => ?_) (fun c => ?_)
  · have h := h.1 c
    obtain ⟨r3, mi1, ml2, hc, h⟩ := h
    refine ab_wc 7 (c := 244) (as := [.ref 1000002]) (pc := 21) (ll := [some (.ref 2), some (.ref 1000002), none]) (st := [.int ((mi 2 5) - (mi 2 4))]) (c1 := 0) (s1 := 0) (g := (ab_G mi ml)) rfl ⟨trivial, trivial, trivial, trivial, trivial, trivial, trivial⟩ hc ?_
    refine ab_wk 1 (f' := (if ((mi 2 5) - (mi 2 4)) = r3 then 26 else 24, [some (.ref 2), some (.ref 1000002), none], [], 0, 0, (ab_G mi1 ml2))) rfl ⟨trivial, trivial⟩ ?_
    refine ab_wi (fun c => ?_) (fun c => ?_)
    · have h := h.1 c
      exact ab_wk 2 (f' := (28, [some (.ref 2), some (.ref 1000002), some (.int 0)], [], 0, 0, (ab_G mi1 ml2))) rfl ⟨trivial, trivial, trivial⟩ h
    · have h := h.2 c
      exact ab_wr 2 rfl ⟨trivial, (Or.inl rfl)⟩ h
  · have h := h.2 c
    exact ab_wr 2 rfl ⟨trivial, (Or.inl rfl)⟩ h
theorem vc_X8_isWord_s2_28 {call : Nat → List Value → ab_S → Option Value → ab_S → Prop} {ro : ab_E} {Q : Option Value → ab_S → Prop} (y2 : Int32) (mi : Nat → Nat → Int32) (ml : Nat → Nat → Int64)
    (h : ∃ (r6 : Int32) (mi4 : Nat → Nat → Int32) (ml5 : Nat → Nat → Int64), call 244 [.ref 1000002] (ab_G mi ml) (some (.int r6)) (ab_G mi4 ml5) ∧ (((y2 < r6) → (((((mi4 2 4) + y2) < (mi4 2 2)) → (vp_in ((mi4 2 4) + y2) 1000 ∧ (∃ (r9 : Int32) (mi7 : Nat → Nat → Int32) (ml8 : Nat → Nat → Int64), call 245 [.ref 1000002, .int y2] (ab_G mi4 ml5) (some (.int r9)) (ab_G mi7 ml8) ∧ ((((mi4 3 (((mi4 2 4) + y2)).toNatClampNeg) = r9) → (ab_W call ro 0 0 (ab_lk2 pl_X8_isWord) Q (28, [some (.ref 2), some (.ref 1000002), some (.int (y2 + 1))], [], 0, 0, (ab_G mi7 ml8)))) ∧ (¬ ((mi4 3 (((mi4 2 4) + y2)).toNatClampNeg) = r9) → (Q (some (.int 0)) (ab_G mi7 ml8))))))) ∧ (¬ (((mi4 2 4) + y2) < (mi4 2 2)) → (Q (some (.int 1)) (ab_G mi4 ml5))))) ∧ (¬ (y2 < r6) → (Q (some (.int 1)) (ab_G mi4 ml5))))) :
    ab_W call ro 0 0 (ab_lk2 pl_X8_isWord) Q (28, [some (.ref 2), some (.ref 1000002), some (.int y2)], [], 0, 0, ab_G mi ml) := by
  obtain ⟨r6, mi4, ml5, hc, h⟩ := h
  refine ab_wc 3 (c := 244) (as := [.ref 1000002]) (pc := 33) (ll := [some (.ref 2), some (.ref 1000002), some (.int y2)]) (st := [.int y2]) (c1 := 0) (s1 := 0) (g := (ab_G mi ml)) rfl ⟨trivial, trivial, trivial⟩ hc ?_
  refine ab_wk 1 (f' := (if y2 < r6 then 36 else 76, [some (.ref 2), some (.ref 1000002), some (.int y2)], [], 0, 0, (ab_G mi4 ml5))) rfl ⟨trivial, trivial⟩ ?_
  refine ab_wi (fun c => ?_) (fun c => ?_)
  · have h := h.1 c
    refine ab_wk 7 (f' := (if ((mi4 2 4) + y2) < (mi4 2 2) then 49 else 76, [some (.ref 2), some (.ref 1000002), some (.int y2)], [], 0, 0, (ab_G mi4 ml5))) rfl ⟨trivial, trivial, trivial, trivial, trivial, trivial, trivial, trivial⟩ ?_
    refine ab_wi (fun c => ?_) (fun c => ?_)
    · have h := h.1 c
      obtain ⟨p0, h⟩ := h
      obtain ⟨r9, mi7, ml8, hc, h⟩ := h
      refine ab_wc 10 (c := 245) (as := [.ref 1000002, .int y2]) (pc := 65) (ll := [some (.ref 2), some (.ref 1000002), some (.int y2)]) (st := [.int (mi4 3 (((mi4 2 4) + y2)).toNatClampNeg)]) (c1 := 0) (s1 := 0) (g := (ab_G mi4 ml5)) rfl ⟨trivial, trivial, trivial, trivial, trivial, trivial, p0, trivial, trivial, trivial⟩ hc ?_
      refine ab_wk 1 (f' := (if (mi4 3 (((mi4 2 4) + y2)).toNatClampNeg) = r9 then 70 else 68, [some (.ref 2), some (.ref 1000002), some (.int y2)], [], 0, 0, (ab_G mi7 ml8))) rfl ⟨trivial, trivial⟩ ?_
      refine ab_wi (fun c => ?_) (fun c => ?_)
      · have h := h.1 c
        exact ab_wk 2 (f' := (28, [some (.ref 2), some (.ref 1000002), some (.int (y2 + 1))], [], 0, 0, (ab_G mi7 ml8))) rfl ⟨trivial, trivial, trivial⟩ h
      · have h := h.2 c
        exact ab_wr 2 rfl ⟨trivial, (Or.inl rfl)⟩ h
    · have h := h.2 c
      exact ab_wr 2 rfl ⟨trivial, (Or.inr rfl)⟩ h
  · have h := h.2 c
    exact ab_wr 2 rfl ⟨trivial, (Or.inr rfl)⟩ h
theorem vc_X7_takeWord_s2_0 {call : Nat → List Value → ab_S → Option Value → ab_S → Prop} {ro : ab_E} {Q : Option Value → ab_S → Prop}  (mi : Nat → Nat → Int32) (ml : Nat → Nat → Int64)
    (h : (((mi 5 1) = 0) → (∃ (r3 : Int32) (mi1 : Nat → Nat → Int32) (ml2 : Nat → Nat → Int64), call 86 [.ref 2, .ref 1000002] (ab_G mi ml) (some (.int r3)) (ab_G mi1 ml2) ∧ (((r3 = 0) → (∃ (mi4 : Nat → Nat → Int32) (ml5 : Nat → Nat → Int64), call 67 [.ref 5, .int 1] (ab_G mi1 ml2) none (ab_G mi4 ml5) ∧ (Q none (ab_G mi4 ml5)))) ∧ (¬ (r3 = 0) → (∃ (mi6 : Nat → Nat → Int32) (ml7 : Nat → Nat → Int64), call 85 [.ref 2] (ab_G mi1 ml2) none (ab_G mi6 ml7) ∧ (Q none (ab_G mi6 ml7))))))) ∧ (¬ ((mi 5 1) = 0) → (∃ (mi8 : Nat → Nat → Int32) (ml9 : Nat → Nat → Int64), call 67 [.ref 5, .int 1] (ab_G mi ml) none (ab_G mi8 ml9) ∧ (Q none (ab_G mi8 ml9))))) :
    ab_W call ro 0 0 (ab_lk2 pl_X7_takeWord) Q (0, [some (.ref 5), some (.ref 1000002)], [], 0, 0, ab_G mi ml) := by
  refine ab_wk 3 (f' := (if (mi 5 1) = 0 then 7 else 28, [some (.ref 5), some (.ref 1000002)], [], 0, 0, (ab_G mi ml))) rfl ⟨trivial, trivial, trivial, trivial⟩ ?_
  refine ab_wi (fun c => ?_) (fun c => ?_)
  · have h := h.1 c
    obtain ⟨r3, mi1, ml2, hc, h⟩ := h
    refine ab_wc 4 (c := 86) (as := [.ref 2, .ref 1000002]) (pc := 15) (ll := [some (.ref 5), some (.ref 1000002)]) (st := []) (c1 := 0) (s1 := 0) (g := (ab_G mi ml)) rfl ⟨trivial, trivial, trivial, trivial⟩ hc ?_
    refine ab_wk 1 (f' := (if r3 = 0 then 28 else 18, [some (.ref 5), some (.ref 1000002)], [], 0, 0, (ab_G mi1 ml2))) rfl ⟨trivial, trivial⟩ ?_
    refine ab_wi (fun c => ?_) (fun c => ?_)
    · have h := h.1 c
      obtain ⟨mi4, ml5, hc, h⟩ := h
      refine ab_wc 3 (c := 67) (as := [.ref 5, .int 1]) (pc := 33) (ll := [some (.ref 5), some (.ref 1000002)]) (st := []) (c1 := 0) (s1 := 0) (g := (ab_G mi1 ml2)) rfl ⟨trivial, trivial, trivial⟩ hc ?_
      exact ab_wr 1 rfl trivial h
    · have h := h.2 c
      obtain ⟨mi6, ml7, hc, h⟩ := h
      refine ab_wc 3 (c := 85) (as := [.ref 2]) (pc := 25) (ll := [some (.ref 5), some (.ref 1000002)]) (st := []) (c1 := 0) (s1 := 0) (g := (ab_G mi1 ml2)) rfl ⟨trivial, trivial, trivial⟩ hc ?_
      exact ab_wr 2 rfl ⟨trivial, trivial⟩ h
  · have h := h.2 c
    obtain ⟨mi8, ml9, hc, h⟩ := h
    refine ab_wc 3 (c := 67) (as := [.ref 5, .int 1]) (pc := 33) (ll := [some (.ref 5), some (.ref 1000002)]) (st := []) (c1 := 0) (s1 := 0) (g := (ab_G mi ml)) rfl ⟨trivial, trivial, trivial⟩ hc ?_
    exact ab_wr 1 rfl trivial h
theorem vc_X8_isWord_s3_0 {call : Nat → List Value → ab_S → Option Value → ab_S → Prop} {ro : ab_E} {Q : Option Value → ab_S → Prop}  (mi : Nat → Nat → Int32) (ml : Nat → Nat → Int64)
    (h : (((mi 2 3) = 2) → (∃ (r3 : Int32) (mi1 : Nat → Nat → Int32) (ml2 : Nat → Nat → Int64), call 244 [.ref 1000003] (ab_G mi ml) (some (.int r3)) (ab_G mi1 ml2) ∧ (((((mi 2 5) - (mi 2 4)) = r3) → (ab_W call ro 0 0 (ab_lk2 pl_X8_isWord) Q (28, [some (.ref 2), some (.ref 1000003), some (.int 0)], [], 0, 0, (ab_G mi1 ml2)))) ∧ (¬ (((mi 2 5) - (mi 2 4)) = r3) → (Q (some (.int 0)) (ab_G mi1 ml2)))))) ∧ (¬ ((mi 2 3) = 2) → (Q (some (.int 0)) (ab_G mi ml)))) :
    ab_W call ro 0 0 (ab_lk2 pl_X8_isWord) Q (0, [some (.ref 2), some (.ref 1000003), none], [], 0, 0, ab_G mi ml) := by
  refine ab_wk 4 (f' := (if (mi 2 3) = 2 then 8 else 24, [some (.ref 2), some (.ref 1000003), none], [], 0, 0, (ab_G mi ml))) rfl ⟨trivial, trivial, trivial, trivial, trivial⟩ ?_
  refine ab_wi (fun c => ?_) (fun c => ?_)
  · have h := h.1 c
    obtain ⟨r3, mi1, ml2, hc, h⟩ := h
    refine ab_wc 7 (c := 244) (as := [.ref 1000003]) (pc := 21) (ll := [some (.ref 2), some (.ref 1000003), none]) (st := [.int ((mi 2 5) - (mi 2 4))]) (c1 := 0) (s1 := 0) (g := (ab_G mi ml)) rfl ⟨trivial, trivial, trivial, trivial, trivial, trivial, trivial⟩ hc ?_
    refine ab_wk 1 (f' := (if ((mi 2 5) - (mi 2 4)) = r3 then 26 else 24, [some (.ref 2), some (.ref 1000003), none], [], 0, 0, (ab_G mi1 ml2))) rfl ⟨trivial, trivial⟩ ?_
    refine ab_wi (fun c => ?_) (fun c => ?_)
    · have h := h.1 c
      exact ab_wk 2 (f' := (28, [some (.ref 2), some (.ref 1000003), some (.int 0)], [], 0, 0, (ab_G mi1 ml2))) rfl ⟨trivial, trivial, trivial⟩ h
    · have h := h.2 c
      exact ab_wr 2 rfl ⟨trivial, (Or.inl rfl)⟩ h
  · have h := h.2 c
    exact ab_wr 2 rfl ⟨trivial, (Or.inl rfl)⟩ h
theorem vc_X8_isWord_s3_28 {call : Nat → List Value → ab_S → Option Value → ab_S → Prop} {ro : ab_E} {Q : Option Value → ab_S → Prop} (y2 : Int32) (mi : Nat → Nat → Int32) (ml : Nat → Nat → Int64)
    (h : ∃ (r6 : Int32) (mi4 : Nat → Nat → Int32) (ml5 : Nat → Nat → Int64), call 244 [.ref 1000003] (ab_G mi ml) (some (.int r6)) (ab_G mi4 ml5) ∧ (((y2 < r6) → (((((mi4 2 4) + y2) < (mi4 2 2)) → (vp_in ((mi4 2 4) + y2) 1000 ∧ (∃ (r9 : Int32) (mi7 : Nat → Nat → Int32) (ml8 : Nat → Nat → Int64), call 245 [.ref 1000003, .int y2] (ab_G mi4 ml5) (some (.int r9)) (ab_G mi7 ml8) ∧ ((((mi4 3 (((mi4 2 4) + y2)).toNatClampNeg) = r9) → (ab_W call ro 0 0 (ab_lk2 pl_X8_isWord) Q (28, [some (.ref 2), some (.ref 1000003), some (.int (y2 + 1))], [], 0, 0, (ab_G mi7 ml8)))) ∧ (¬ ((mi4 3 (((mi4 2 4) + y2)).toNatClampNeg) = r9) → (Q (some (.int 0)) (ab_G mi7 ml8))))))) ∧ (¬ (((mi4 2 4) + y2) < (mi4 2 2)) → (Q (some (.int 1)) (ab_G mi4 ml5))))) ∧ (¬ (y2 < r6) → (Q (some (.int 1)) (ab_G mi4 ml5))))) :
    ab_W call ro 0 0 (ab_lk2 pl_X8_isWord) Q (28, [some (.ref 2), some (.ref 1000003), some (.int y2)], [], 0, 0, ab_G mi ml) := by
  obtain ⟨r6, mi4, ml5, hc, h⟩ := h
  refine ab_wc 3 (c := 244) (as := [.ref 1000003]) (pc := 33) (ll := [some (.ref 2), some (.ref 1000003), some (.int y2)]) (st := [.int y2]) (c1 := 0) (s1 := 0) (g := (ab_G mi ml)) rfl ⟨trivial, trivial, trivial⟩ hc ?_
  refine ab_wk 1 (f' := (if y2 < r6 then 36 else 76, [some (.ref 2), some (.ref 1000003), some (.int y2)], [], 0, 0, (ab_G mi4 ml5))) rfl ⟨trivial, trivial⟩ ?_
  refine ab_wi (fun c => ?_) (fun c => ?_)
  · have h := h.1 c
    refine ab_wk 7 (f' := (if ((mi4 2 4) + y2) < (mi4 2 2) then 49 else 76, [some (.ref 2), some (.ref 1000003), some (.int y2)], [], 0, 0, (ab_G mi4 ml5))) rfl ⟨trivial, trivial, trivial, trivial, trivial, trivial, trivial, trivial⟩ ?_
    refine ab_wi (fun c => ?_) (fun c => ?_)
    · have h := h.1 c
      obtain ⟨p0, h⟩ := h
      obtain ⟨r9, mi7, ml8, hc, h⟩ := h
      refine ab_wc 10 (c := 245) (as := [.ref 1000003, .int y2]) (pc := 65) (ll := [some (.ref 2), some (.ref 1000003), some (.int y2)]) (st := [.int (mi4 3 (((mi4 2 4) + y2)).toNatClampNeg)]) (c1 := 0) (s1 := 0) (g := (ab_G mi4 ml5)) rfl ⟨trivial, trivial, trivial, trivial, trivial, trivial, p0, trivial, trivial, trivial⟩ hc ?_
      refine ab_wk 1 (f' := (if (mi4 3 (((mi4 2 4) + y2)).toNatClampNeg) = r9 then 70 else 68, [some (.ref 2), some (.ref 1000003), some (.int y2)], [], 0, 0, (ab_G mi7 ml8))) rfl ⟨trivial, trivial⟩ ?_
      refine ab_wi (fun c => ?_) (fun c => ?_)
      · have h := h.1 c
        exact ab_wk 2 (f' := (28, [some (.ref 2), some (.ref 1000003), some (.int (y2 + 1))], [], 0, 0, (ab_G mi7 ml8))) rfl ⟨trivial, trivial, trivial⟩ h
      · have h := h.2 c
        exact ab_wr 2 rfl ⟨trivial, (Or.inl rfl)⟩ h
    · have h := h.2 c
      exact ab_wr 2 rfl ⟨trivial, (Or.inr rfl)⟩ h
  · have h := h.2 c
    exact ab_wr 2 rfl ⟨trivial, (Or.inr rfl)⟩ h
theorem vc_X7_takeWord_s3_0 {call : Nat → List Value → ab_S → Option Value → ab_S → Prop} {ro : ab_E} {Q : Option Value → ab_S → Prop}  (mi : Nat → Nat → Int32) (ml : Nat → Nat → Int64)
    (h : (((mi 5 1) = 0) → (∃ (r3 : Int32) (mi1 : Nat → Nat → Int32) (ml2 : Nat → Nat → Int64), call 86 [.ref 2, .ref 1000003] (ab_G mi ml) (some (.int r3)) (ab_G mi1 ml2) ∧ (((r3 = 0) → (∃ (mi4 : Nat → Nat → Int32) (ml5 : Nat → Nat → Int64), call 67 [.ref 5, .int 1] (ab_G mi1 ml2) none (ab_G mi4 ml5) ∧ (Q none (ab_G mi4 ml5)))) ∧ (¬ (r3 = 0) → (∃ (mi6 : Nat → Nat → Int32) (ml7 : Nat → Nat → Int64), call 85 [.ref 2] (ab_G mi1 ml2) none (ab_G mi6 ml7) ∧ (Q none (ab_G mi6 ml7))))))) ∧ (¬ ((mi 5 1) = 0) → (∃ (mi8 : Nat → Nat → Int32) (ml9 : Nat → Nat → Int64), call 67 [.ref 5, .int 1] (ab_G mi ml) none (ab_G mi8 ml9) ∧ (Q none (ab_G mi8 ml9))))) :
    ab_W call ro 0 0 (ab_lk2 pl_X7_takeWord) Q (0, [some (.ref 5), some (.ref 1000003)], [], 0, 0, ab_G mi ml) := by
  refine ab_wk 3 (f' := (if (mi 5 1) = 0 then 7 else 28, [some (.ref 5), some (.ref 1000003)], [], 0, 0, (ab_G mi ml))) rfl ⟨trivial, trivial, trivial, trivial⟩ ?_
  refine ab_wi (fun c => ?_) (fun c => ?_)
  · have h := h.1 c
    obtain ⟨r3, mi1, ml2, hc, h⟩ := h
    refine ab_wc 4 (c := 86) (as := [.ref 2, .ref 1000003]) (pc := 15) (ll := [some (.ref 5), some (.ref 1000003)]) (st := []) (c1 := 0) (s1 := 0) (g := (ab_G mi ml)) rfl ⟨trivial, trivial, trivial, trivial⟩ hc ?_
    refine ab_wk 1 (f' := (if r3 = 0 then 28 else 18, [some (.ref 5), some (.ref 1000003)], [], 0, 0, (ab_G mi1 ml2))) rfl ⟨trivial, trivial⟩ ?_
    refine ab_wi (fun c => ?_) (fun c => ?_)
    · have h := h.1 c
      obtain ⟨mi4, ml5, hc, h⟩ := h
      refine ab_wc 3 (c := 67) (as := [.ref 5, .int 1]) (pc := 33) (ll := [some (.ref 5), some (.ref 1000003)]) (st := []) (c1 := 0) (s1 := 0) (g := (ab_G mi1 ml2)) rfl ⟨trivial, trivial, trivial⟩ hc ?_
      exact ab_wr 1 rfl trivial h
    · have h := h.2 c
      obtain ⟨mi6, ml7, hc, h⟩ := h
      refine ab_wc 3 (c := 85) (as := [.ref 2]) (pc := 25) (ll := [some (.ref 5), some (.ref 1000003)]) (st := []) (c1 := 0) (s1 := 0) (g := (ab_G mi1 ml2)) rfl ⟨trivial, trivial, trivial⟩ hc ?_
      exact ab_wr 2 rfl ⟨trivial, trivial⟩ h
  · have h := h.2 c
    obtain ⟨mi8, ml9, hc, h⟩ := h
    refine ab_wc 3 (c := 67) (as := [.ref 5, .int 1]) (pc := 33) (ll := [some (.ref 5), some (.ref 1000003)]) (st := []) (c1 := 0) (s1 := 0) (g := (ab_G mi ml)) rfl ⟨trivial, trivial, trivial⟩ hc ?_
    exact ab_wr 1 rfl trivial h
theorem vc_X8_isWord_s4_0 {call : Nat → List Value → ab_S → Option Value → ab_S → Prop} {ro : ab_E} {Q : Option Value → ab_S → Prop}  (mi : Nat → Nat → Int32) (ml : Nat → Nat → Int64)
    (h : (((mi 2 3) = 2) → (∃ (r3 : Int32) (mi1 : Nat → Nat → Int32) (ml2 : Nat → Nat → Int64), call 244 [.ref 1000004] (ab_G mi ml) (some (.int r3)) (ab_G mi1 ml2) ∧ (((((mi 2 5) - (mi 2 4)) = r3) → (ab_W call ro 0 0 (ab_lk2 pl_X8_isWord) Q (28, [some (.ref 2), some (.ref 1000004), some (.int 0)], [], 0, 0, (ab_G mi1 ml2)))) ∧ (¬ (((mi 2 5) - (mi 2 4)) = r3) → (Q (some (.int 0)) (ab_G mi1 ml2)))))) ∧ (¬ ((mi 2 3) = 2) → (Q (some (.int 0)) (ab_G mi ml)))) :
    ab_W call ro 0 0 (ab_lk2 pl_X8_isWord) Q (0, [some (.ref 2), some (.ref 1000004), none], [], 0, 0, ab_G mi ml) := by
  refine ab_wk 4 (f' := (if (mi 2 3) = 2 then 8 else 24, [some (.ref 2), some (.ref 1000004), none], [], 0, 0, (ab_G mi ml))) rfl ⟨trivial, trivial, trivial, trivial, trivial⟩ ?_
  refine ab_wi (fun c => ?_) (fun c => ?_)
  · have h := h.1 c
    obtain ⟨r3, mi1, ml2, hc, h⟩ := h
    refine ab_wc 7 (c := 244) (as := [.ref 1000004]) (pc := 21) (ll := [some (.ref 2), some (.ref 1000004), none]) (st := [.int ((mi 2 5) - (mi 2 4))]) (c1 := 0) (s1 := 0) (g := (ab_G mi ml)) rfl ⟨trivial, trivial, trivial, trivial, trivial, trivial, trivial⟩ hc ?_
    refine ab_wk 1 (f' := (if ((mi 2 5) - (mi 2 4)) = r3 then 26 else 24, [some (.ref 2), some (.ref 1000004), none], [], 0, 0, (ab_G mi1 ml2))) rfl ⟨trivial, trivial⟩ ?_
    refine ab_wi (fun c => ?_) (fun c => ?_)
    · have h := h.1 c
      exact ab_wk 2 (f' := (28, [some (.ref 2), some (.ref 1000004), some (.int 0)], [], 0, 0, (ab_G mi1 ml2))) rfl ⟨trivial, trivial, trivial⟩ h
    · have h := h.2 c
      exact ab_wr 2 rfl ⟨trivial, (Or.inl rfl)⟩ h
  · have h := h.2 c
    exact ab_wr 2 rfl ⟨trivial, (Or.inl rfl)⟩ h
theorem vc_X8_isWord_s4_28 {call : Nat → List Value → ab_S → Option Value → ab_S → Prop} {ro : ab_E} {Q : Option Value → ab_S → Prop} (y2 : Int32) (mi : Nat → Nat → Int32) (ml : Nat → Nat → Int64)
    (h : ∃ (r6 : Int32) (mi4 : Nat → Nat → Int32) (ml5 : Nat → Nat → Int64), call 244 [.ref 1000004] (ab_G mi ml) (some (.int r6)) (ab_G mi4 ml5) ∧ (((y2 < r6) → (((((mi4 2 4) + y2) < (mi4 2 2)) → (vp_in ((mi4 2 4) + y2) 1000 ∧ (∃ (r9 : Int32) (mi7 : Nat → Nat → Int32) (ml8 : Nat → Nat → Int64), call 245 [.ref 1000004, .int y2] (ab_G mi4 ml5) (some (.int r9)) (ab_G mi7 ml8) ∧ ((((mi4 3 (((mi4 2 4) + y2)).toNatClampNeg) = r9) → (ab_W call ro 0 0 (ab_lk2 pl_X8_isWord) Q (28, [some (.ref 2), some (.ref 1000004), some (.int (y2 + 1))], [], 0, 0, (ab_G mi7 ml8)))) ∧ (¬ ((mi4 3 (((mi4 2 4) + y2)).toNatClampNeg) = r9) → (Q (some (.int 0)) (ab_G mi7 ml8))))))) ∧ (¬ (((mi4 2 4) + y2) < (mi4 2 2)) → (Q (some (.int 1)) (ab_G mi4 ml5))))) ∧ (¬ (y2 < r6) → (Q (some (.int 1)) (ab_G mi4 ml5))))) :
    ab_W call ro 0 0 (ab_lk2 pl_X8_isWord) Q (28, [some (.ref 2), some (.ref 1000004), some (.int y2)], [], 0, 0, ab_G mi ml) := by
  obtain ⟨r6, mi4, ml5, hc, h⟩ := h
  refine ab_wc 3 (c := 244) (as := [.ref 1000004]) (pc := 33) (ll := [some (.ref 2), some (.ref 1000004), some (.int y2)]) (st := [.int y2]) (c1 := 0) (s1 := 0) (g := (ab_G mi ml)) rfl ⟨trivial, trivial, trivial⟩ hc ?_
  refine ab_wk 1 (f' := (if y2 < r6 then 36 else 76, [some (.ref 2), some (.ref 1000004), some (.int y2)], [], 0, 0, (ab_G mi4 ml5))) rfl ⟨trivial, trivial⟩ ?_
  refine ab_wi (fun c => ?_) (fun c => ?_)
  · have h := h.1 c
    refine ab_wk 7 (f' := (if ((mi4 2 4) + y2) < (mi4 2 2) then 49 else 76, [some (.ref 2), some (.ref 1000004), some (.int y2)], [], 0, 0, (ab_G mi4 ml5))) rfl ⟨trivial, trivial, trivial, trivial, trivial, trivial, trivial, trivial⟩ ?_
    refine ab_wi (fun c => ?_) (fun c => ?_)
    · have h := h.1 c
      obtain ⟨p0, h⟩ := h
      obtain ⟨r9, mi7, ml8, hc, h⟩ := h
      refine ab_wc 10 (c := 245) (as := [.ref 1000004, .int y2]) (pc := 65) (ll := [some (.ref 2), some (.ref 1000004), some (.int y2)]) (st := [.int (mi4 3 (((mi4 2 4) + y2)).toNatClampNeg)]) (c1 := 0) (s1 := 0) (g := (ab_G mi4 ml5)) rfl ⟨trivial, trivial, trivial, trivial, trivial, trivial, p0, trivial, trivial, trivial⟩ hc ?_
      refine ab_wk 1 (f' := (if (mi4 3 (((mi4 2 4) + y2)).toNatClampNeg) = r9 then 70 else 68, [some (.ref 2), some (.ref 1000004), some (.int y2)], [], 0, 0, (ab_G mi7 ml8))) rfl ⟨trivial, trivial⟩ ?_
      refine ab_wi (fun c => ?_) (fun c => ?_)
      · have h := h.1 c
        exact ab_wk 2 (f' := (28, [some (.ref 2), some (.ref 1000004), some (.int (y2 + 1))], [], 0, 0, (ab_G mi7 ml8))) rfl ⟨trivial, trivial, trivial⟩ h
      · have h := h.2 c
        exact ab_wr 2 rfl ⟨trivial, (Or.inl rfl)⟩ h
    · have h := h.2 c
      exact ab_wr 2 rfl ⟨trivial, (Or.inr rfl)⟩ h
  · have h := h.2 c
    exact ab_wr 2 rfl ⟨trivial, (Or.inr rfl)⟩ h
theorem vc_X7_takeWord_s4_0 {call : Nat → List Value → ab_S → Option Value → ab_S → Prop} {ro : ab_E} {Q : Option Value → ab_S → Prop}  (mi : Nat → Nat → Int32) (ml : Nat → Nat → Int64)
    (h : (((mi 5 1) = 0) → (∃ (r3 : Int32) (mi1 : Nat → Nat → Int32) (ml2 : Nat → Nat → Int64), call 86 [.ref 2, .ref 1000004] (ab_G mi ml) (some (.int r3)) (ab_G mi1 ml2) ∧ (((r3 = 0) → (∃ (mi4 : Nat → Nat → Int32) (ml5 : Nat → Nat → Int64), call 67 [.ref 5, .int 1] (ab_G mi1 ml2) none (ab_G mi4 ml5) ∧ (Q none (ab_G mi4 ml5)))) ∧ (¬ (r3 = 0) → (∃ (mi6 : Nat → Nat → Int32) (ml7 : Nat → Nat → Int64), call 85 [.ref 2] (ab_G mi1 ml2) none (ab_G mi6 ml7) ∧ (Q none (ab_G mi6 ml7))))))) ∧ (¬ ((mi 5 1) = 0) → (∃ (mi8 : Nat → Nat → Int32) (ml9 : Nat → Nat → Int64), call 67 [.ref 5, .int 1] (ab_G mi ml) none (ab_G mi8 ml9) ∧ (Q none (ab_G mi8 ml9))))) :
    ab_W call ro 0 0 (ab_lk2 pl_X7_takeWord) Q (0, [some (.ref 5), some (.ref 1000004)], [], 0, 0, ab_G mi ml) := by
  refine ab_wk 3 (f' := (if (mi 5 1) = 0 then 7 else 28, [some (.ref 5), some (.ref 1000004)], [], 0, 0, (ab_G mi ml))) rfl ⟨trivial, trivial, trivial, trivial⟩ ?_
  refine ab_wi (fun c => ?_) (fun c => ?_)
  · have h := h.1 c
    obtain ⟨r3, mi1, ml2, hc, h⟩ := h
    refine ab_wc 4 (c := 86) (as := [.ref 2, .ref 1000004]) (pc := 15) (ll := [some (.ref 5), some (.ref 1000004)]) (st := []) (c1 := 0) (s1 := 0) (g := (ab_G mi ml)) rfl ⟨trivial, trivial, trivial, trivial⟩ hc ?_
    refine ab_wk 1 (f' := (if r3 = 0 then 28 else 18, [some (.ref 5), some (.ref 1000004)], [], 0, 0, (ab_G mi1 ml2))) rfl ⟨trivial, trivial⟩ ?_
    refine ab_wi (fun c => ?_) (fun c => ?_)
    · have h := h.1 c
      obtain ⟨mi4, ml5, hc, h⟩ := h
      refine ab_wc 3 (c := 67) (as := [.ref 5, .int 1]) (pc := 33) (ll := [some (.ref 5), some (.ref 1000004)]) (st := []) (c1 := 0) (s1 := 0) (g := (ab_G mi1 ml2)) rfl ⟨trivial, trivial, trivial⟩ hc ?_
      exact ab_wr 1 rfl trivial h
    · have h := h.2 c
      obtain ⟨mi6, ml7, hc, h⟩ := h
      refine ab_wc 3 (c := 85) (as := [.ref 2]) (pc := 25) (ll := [some (.ref 5), some (.ref 1000004)]) (st := []) (c1 := 0) (s1 := 0) (g := (ab_G mi1 ml2)) rfl ⟨trivial, trivial, trivial⟩ hc ?_
      exact ab_wr 2 rfl ⟨trivial, trivial⟩ h
  · have h := h.2 c
    obtain ⟨mi8, ml9, hc, h⟩ := h
    refine ab_wc 3 (c := 67) (as := [.ref 5, .int 1]) (pc := 33) (ll := [some (.ref 5), some (.ref 1000004)]) (st := []) (c1 := 0) (s1 := 0) (g := (ab_G mi ml)) rfl ⟨trivial, trivial, trivial⟩ hc ?_
    exact ab_wr 1 rfl trivial h
theorem vc_X8_isWord_s5_0 {call : Nat → List Value → ab_S → Option Value → ab_S → Prop} {ro : ab_E} {Q : Option Value → ab_S → Prop}  (mi : Nat → Nat → Int32) (ml : Nat → Nat → Int64)
    (h : (((mi 2 3) = 2) → (∃ (r3 : Int32) (mi1 : Nat → Nat → Int32) (ml2 : Nat → Nat → Int64), call 244 [.ref 1000005] (ab_G mi ml) (some (.int r3)) (ab_G mi1 ml2) ∧ (((((mi 2 5) - (mi 2 4)) = r3) → (ab_W call ro 0 0 (ab_lk2 pl_X8_isWord) Q (28, [some (.ref 2), some (.ref 1000005), some (.int 0)], [], 0, 0, (ab_G mi1 ml2)))) ∧ (¬ (((mi 2 5) - (mi 2 4)) = r3) → (Q (some (.int 0)) (ab_G mi1 ml2)))))) ∧ (¬ ((mi 2 3) = 2) → (Q (some (.int 0)) (ab_G mi ml)))) :
    ab_W call ro 0 0 (ab_lk2 pl_X8_isWord) Q (0, [some (.ref 2), some (.ref 1000005), none], [], 0, 0, ab_G mi ml) := by
  refine ab_wk 4 (f' := (if (mi 2 3) = 2 then 8 else 24, [some (.ref 2), some (.ref 1000005), none], [], 0, 0, (ab_G mi ml))) rfl ⟨trivial, trivial, trivial, trivial, trivial⟩ ?_
  refine ab_wi (fun c => ?_) (fun c => ?_)
  · have h := h.1 c
    obtain ⟨r3, mi1, ml2, hc, h⟩ := h
    refine ab_wc 7 (c := 244) (as := [.ref 1000005]) (pc := 21) (ll := [some (.ref 2), some (.ref 1000005), none]) (st := [.int ((mi 2 5) - (mi 2 4))]) (c1 := 0) (s1 := 0) (g := (ab_G mi ml)) rfl ⟨trivial, trivial, trivial, trivial, trivial, trivial, trivial⟩ hc ?_
    refine ab_wk 1 (f' := (if ((mi 2 5) - (mi 2 4)) = r3 then 26 else 24, [some (.ref 2), some (.ref 1000005), none], [], 0, 0, (ab_G mi1 ml2))) rfl ⟨trivial, trivial⟩ ?_
    refine ab_wi (fun c => ?_) (fun c => ?_)
    · have h := h.1 c
      exact ab_wk 2 (f' := (28, [some (.ref 2), some (.ref 1000005), some (.int 0)], [], 0, 0, (ab_G mi1 ml2))) rfl ⟨trivial, trivial, trivial⟩ h
    · have h := h.2 c
      exact ab_wr 2 rfl ⟨trivial, (Or.inl rfl)⟩ h
  · have h := h.2 c
    exact ab_wr 2 rfl ⟨trivial, (Or.inl rfl)⟩ h
theorem vc_X8_isWord_s5_28 {call : Nat → List Value → ab_S → Option Value → ab_S → Prop} {ro : ab_E} {Q : Option Value → ab_S → Prop} (y2 : Int32) (mi : Nat → Nat → Int32) (ml : Nat → Nat → Int64)
    (h : ∃ (r6 : Int32) (mi4 : Nat → Nat → Int32) (ml5 : Nat → Nat → Int64), call 244 [.ref 1000005] (ab_G mi ml) (some (.int r6)) (ab_G mi4 ml5) ∧ (((y2 < r6) → (((((mi4 2 4) + y2) < (mi4 2 2)) → (vp_in ((mi4 2 4) + y2) 1000 ∧ (∃ (r9 : Int32) (mi7 : Nat → Nat → Int32) (ml8 : Nat → Nat → Int64), call 245 [.ref 1000005, .int y2] (ab_G mi4 ml5) (some (.int r9)) (ab_G mi7 ml8) ∧ ((((mi4 3 (((mi4 2 4) + y2)).toNatClampNeg) = r9) → (ab_W call ro 0 0 (ab_lk2 pl_X8_isWord) Q (28, [some (.ref 2), some (.ref 1000005), some (.int (y2 + 1))], [], 0, 0, (ab_G mi7 ml8)))) ∧ (¬ ((mi4 3 (((mi4 2 4) + y2)).toNatClampNeg) = r9) → (Q (some (.int 0)) (ab_G mi7 ml8))))))) ∧ (¬ (((mi4 2 4) + y2) < (mi4 2 2)) → (Q (some (.int 1)) (ab_G mi4 ml5))))) ∧ (¬ (y2 < r6) → (Q (some (.int 1)) (ab_G mi4 ml5))))) :
    ab_W call ro 0 0 (ab_lk2 pl_X8_isWord) Q (28, [some (.ref 2), some (.ref 1000005), some (.int y2)], [], 0, 0, ab_G mi ml) := by
  obtain ⟨r6, mi4, ml5, hc, h⟩ := h
  refine ab_wc 3 (c := 244) (as := [.ref 1000005]) (pc := 33) (ll := [some (.ref 2), some (.ref 1000005), some (.int y2)]) (st := [.int y2]) (c1 := 0) (s1 := 0) (g := (ab_G mi ml)) rfl ⟨trivial, trivial, trivial⟩ hc ?_
  refine ab_wk 1 (f' := (if y2 < r6 then 36 else 76, [some (.ref 2), some (.ref 1000005), some (.int y2)], [], 0, 0, (ab_G mi4 ml5))) rfl ⟨trivial, trivial⟩ ?_
  refine ab_wi (fun c => ?_) (fun c => ?_)
  · have h := h.1 c
    refine ab_wk 7 (f' := (if ((mi4 2 4) + y2) < (mi4 2 2) then 49 else 76, [some (.ref 2), some (.ref 1000005), some (.int y2)], [], 0, 0, (ab_G mi4 ml5))) rfl ⟨trivial, trivial, trivial, trivial, trivial, trivial, trivial, trivial⟩ ?_
    refine ab_wi (fun c => ?_) (fun c => ?_)
    · have h := h.1 c
      obtain ⟨p0, h⟩ := h
      obtain ⟨r9, mi7, ml8, hc, h⟩ := h
      refine ab_wc 10 (c := 245) (as := [.ref 1000005, .int y2]) (pc := 65) (ll := [some (.ref 2), some (.ref 1000005), some (.int y2)]) (st := [.int (mi4 3 (((mi4 2 4) + y2)).toNatClampNeg)]) (c1 := 0) (s1 := 0) (g := (ab_G mi4 ml5)) rfl ⟨trivial, trivial, trivial, trivial, trivial, trivial, p0, trivial, trivial, trivial⟩ hc ?_
      refine ab_wk 1 (f' := (if (mi4 3 (((mi4 2 4) + y2)).toNatClampNeg) = r9 then 70 else 68, [some (.ref 2), some (.ref 1000005), some (.int y2)], [], 0, 0, (ab_G mi7 ml8))) rfl ⟨trivial, trivial⟩ ?_
      refine ab_wi (fun c => ?_) (fun c => ?_)
      · have h := h.1 c
        exact ab_wk 2 (f' := (28, [some (.ref 2), some (.ref 1000005), some (.int (y2 + 1))], [], 0, 0, (ab_G mi7 ml8))) rfl ⟨trivial, trivial, trivial⟩ h
      · have h := h.2 c
        exact ab_wr 2 rfl ⟨trivial, (Or.inl rfl)⟩ h
    · have h := h.2 c
      exact ab_wr 2 rfl ⟨trivial, (Or.inr rfl)⟩ h
  · have h := h.2 c
    exact ab_wr 2 rfl ⟨trivial, (Or.inr rfl)⟩ h
theorem vc_X7_takeWord_s5_0 {call : Nat → List Value → ab_S → Option Value → ab_S → Prop} {ro : ab_E} {Q : Option Value → ab_S → Prop}  (mi : Nat → Nat → Int32) (ml : Nat → Nat → Int64)
    (h : (((mi 5 1) = 0) → (∃ (r3 : Int32) (mi1 : Nat → Nat → Int32) (ml2 : Nat → Nat → Int64), call 86 [.ref 2, .ref 1000005] (ab_G mi ml) (some (.int r3)) (ab_G mi1 ml2) ∧ (((r3 = 0) → (∃ (mi4 : Nat → Nat → Int32) (ml5 : Nat → Nat → Int64), call 67 [.ref 5, .int 1] (ab_G mi1 ml2) none (ab_G mi4 ml5) ∧ (Q none (ab_G mi4 ml5)))) ∧ (¬ (r3 = 0) → (∃ (mi6 : Nat → Nat → Int32) (ml7 : Nat → Nat → Int64), call 85 [.ref 2] (ab_G mi1 ml2) none (ab_G mi6 ml7) ∧ (Q none (ab_G mi6 ml7))))))) ∧ (¬ ((mi 5 1) = 0) → (∃ (mi8 : Nat → Nat → Int32) (ml9 : Nat → Nat → Int64), call 67 [.ref 5, .int 1] (ab_G mi ml) none (ab_G mi8 ml9) ∧ (Q none (ab_G mi8 ml9))))) :
    ab_W call ro 0 0 (ab_lk2 pl_X7_takeWord) Q (0, [some (.ref 5), some (.ref 1000005)], [], 0, 0, ab_G mi ml) := by
  refine ab_wk 3 (f' := (if (mi 5 1) = 0 then 7 else 28, [some (.ref 5), some (.ref 1000005)], [], 0, 0, (ab_G mi ml))) rfl ⟨trivial, trivial, trivial, trivial⟩ ?_
  refine ab_wi (fun c => ?_) (fun c => ?_)
  · have h := h.1 c
    obtain ⟨r3, mi1, ml2, hc, h⟩ := h
    refine ab_wc 4 (c := 86) (as := [.ref 2, .ref 1000005]) (pc := 15) (ll := [some (.ref 5), some (.ref 1000005)]) (st := []) (c1 := 0) (s1 := 0) (g := (ab_G mi ml)) rfl ⟨trivial, trivial, trivial, trivial⟩ hc ?_
    refine ab_wk 1 (f' := (if r3 = 0 then 28 else 18, [some (.ref 5), some (.ref 1000005)], [], 0, 0, (ab_G mi1 ml2))) rfl ⟨trivial, trivial⟩ ?_
    refine ab_wi (fun c => ?_) (fun c => ?_)
    · have h := h.1 c
      obtain ⟨mi4, ml5, hc, h⟩ := h
      refine ab_wc 3 (c := 67) (as := [.ref 5, .int 1]) (pc := 33) (ll := [some (.ref 5), some (.ref 1000005)]) (st := []) (c1 := 0) (s1 := 0) (g := (ab_G mi1 ml2)) rfl ⟨trivial, trivial, trivial⟩ hc ?_
      exact ab_wr 1 rfl trivial h
    · have h := h.2 c
      obtain ⟨mi6, ml7, hc, h⟩ := h
      refine ab_wc 3 (c := 85) (as := [.ref 2]) (pc := 25) (ll := [some (.ref 5), some (.ref 1000005)]) (st := []) (c1 := 0) (s1 := 0) (g := (ab_G mi1 ml2)) rfl ⟨trivial, trivial, trivial⟩ hc ?_
      exact ab_wr 2 rfl ⟨trivial, trivial⟩ h
  · have h := h.2 c
    obtain ⟨mi8, ml9, hc, h⟩ := h
    refine ab_wc 3 (c := 67) (as := [.ref 5, .int 1]) (pc := 33) (ll := [some (.ref 5), some (.ref 1000005)]) (st := []) (c1 := 0) (s1 := 0) (g := (ab_G mi ml)) rfl ⟨trivial, trivial, trivial⟩ hc ?_
    exact ab_wr 1 rfl trivial h
theorem vc_X8_isWord_s6_0 {call : Nat → List Value → ab_S → Option Value → ab_S → Prop} {ro : ab_E} {Q : Option Value → ab_S → Prop}  (mi : Nat → Nat → Int32) (ml : Nat → Nat → Int64)
    (h : (((mi 2 3) = 2) → (∃ (r3 : Int32) (mi1 : Nat → Nat → Int32) (ml2 : Nat → Nat → Int64), call 244 [.ref 1000006] (ab_G mi ml) (some (.int r3)) (ab_G mi1 ml2) ∧ (((((mi 2 5) - (mi 2 4)) = r3) → (ab_W call ro 0 0 (ab_lk2 pl_X8_isWord) Q (28, [some (.ref 2), some (.ref 1000006), some (.int 0)], [], 0, 0, (ab_G mi1 ml2)))) ∧ (¬ (((mi 2 5) - (mi 2 4)) = r3) → (Q (some (.int 0)) (ab_G mi1 ml2)))))) ∧ (¬ ((mi 2 3) = 2) → (Q (some (.int 0)) (ab_G mi ml)))) :
    ab_W call ro 0 0 (ab_lk2 pl_X8_isWord) Q (0, [some (.ref 2), some (.ref 1000006), none], [], 0, 0, ab_G mi ml) := by
  refine ab_wk 4 (f' := (if (mi 2 3) = 2 then 8 else 24, [some (.ref 2), some (.ref 1000006), none], [], 0, 0, (ab_G mi ml))) rfl ⟨trivial, trivial, trivial, trivial, trivial⟩ ?_
  refine ab_wi (fun c => ?_) (fun c => ?_)
  · have h := h.1 c
    obtain ⟨r3, mi1, ml2, hc, h⟩ := h
    refine ab_wc 7 (c := 244) (as := [.ref 1000006]) (pc := 21) (ll := [some (.ref 2), some (.ref 1000006), none]) (st := [.int ((mi 2 5) - (mi 2 4))]) (c1 := 0) (s1 := 0) (g := (ab_G mi ml)) rfl ⟨trivial, trivial, trivial, trivial, trivial, trivial, trivial⟩ hc ?_
    refine ab_wk 1 (f' := (if ((mi 2 5) - (mi 2 4)) = r3 then 26 else 24, [some (.ref 2), some (.ref 1000006), none], [], 0, 0, (ab_G mi1 ml2))) rfl ⟨trivial, trivial⟩ ?_
    refine ab_wi (fun c => ?_) (fun c => ?_)
    · have h := h.1 c
      exact ab_wk 2 (f' := (28, [some (.ref 2), some (.ref 1000006), some (.int 0)], [], 0, 0, (ab_G mi1 ml2))) rfl ⟨trivial, trivial, trivial⟩ h
    · have h := h.2 c
      exact ab_wr 2 rfl ⟨trivial, (Or.inl rfl)⟩ h
  · have h := h.2 c
    exact ab_wr 2 rfl ⟨trivial, (Or.inl rfl)⟩ h
theorem vc_X8_isWord_s6_28 {call : Nat → List Value → ab_S → Option Value → ab_S → Prop} {ro : ab_E} {Q : Option Value → ab_S → Prop} (y2 : Int32) (mi : Nat → Nat → Int32) (ml : Nat → Nat → Int64)
    (h : ∃ (r6 : Int32) (mi4 : Nat → Nat → Int32) (ml5 : Nat → Nat → Int64), call 244 [.ref 1000006] (ab_G mi ml) (some (.int r6)) (ab_G mi4 ml5) ∧ (((y2 < r6) → (((((mi4 2 4) + y2) < (mi4 2 2)) → (vp_in ((mi4 2 4) + y2) 1000 ∧ (∃ (r9 : Int32) (mi7 : Nat → Nat → Int32) (ml8 : Nat → Nat → Int64), call 245 [.ref 1000006, .int y2] (ab_G mi4 ml5) (some (.int r9)) (ab_G mi7 ml8) ∧ ((((mi4 3 (((mi4 2 4) + y2)).toNatClampNeg) = r9) → (ab_W call ro 0 0 (ab_lk2 pl_X8_isWord) Q (28, [some (.ref 2), some (.ref 1000006), some (.int (y2 + 1))], [], 0, 0, (ab_G mi7 ml8)))) ∧ (¬ ((mi4 3 (((mi4 2 4) + y2)).toNatClampNeg) = r9) → (Q (some (.int 0)) (ab_G mi7 ml8))))))) ∧ (¬ (((mi4 2 4) + y2) < (mi4 2 2)) → (Q (some (.int 1)) (ab_G mi4 ml5))))) ∧ (¬ (y2 < r6) → (Q (some (.int 1)) (ab_G mi4 ml5))))) :
    ab_W call ro 0 0 (ab_lk2 pl_X8_isWord) Q (28, [some (.ref 2), some (.ref 1000006), some (.int y2)], [], 0, 0, ab_G mi ml) := by
  obtain ⟨r6, mi4, ml5, hc, h⟩ := h
  refine ab_wc 3 (c := 244) (as := [.ref 1000006]) (pc := 33) (ll := [some (.ref 2), some (.ref 1000006), some (.int y2)]) (st := [.int y2]) (c1 := 0) (s1 := 0) (g := (ab_G mi ml)) rfl ⟨trivial, trivial, trivial⟩ hc ?_
  refine ab_wk 1 (f' := (if y2 < r6 then 36 else 76, [some (.ref 2), some (.ref 1000006), some (.int y2)], [], 0, 0, (ab_G mi4 ml5))) rfl ⟨trivial, trivial⟩ ?_
  refine ab_wi (fun c => ?_) (fun c => ?_)
  · have h := h.1 c
    refine ab_wk 7 (f' := (if ((mi4 2 4) + y2) < (mi4 2 2) then 49 else 76, [some (.ref 2), some (.ref 1000006), some (.int y2)], [], 0, 0, (ab_G mi4 ml5))) rfl ⟨trivial, trivial, trivial, trivial, trivial, trivial, trivial, trivial⟩ ?_
    refine ab_wi (fun c => ?_) (fun c => ?_)
    · have h := h.1 c
      obtain ⟨p0, h⟩ := h
      obtain ⟨r9, mi7, ml8, hc, h⟩ := h
      refine ab_wc 10 (c := 245) (as := [.ref 1000006, .int y2]) (pc := 65) (ll := [some (.ref 2), some (.ref 1000006), some (.int y2)]) (st := [.int (mi4 3 (((mi4 2 4) + y2)).toNatClampNeg)]) (c1 := 0) (s1 := 0) (g := (ab_G mi4 ml5)) rfl ⟨trivial, trivial, trivial, trivial, trivial, trivial, p0, trivial, trivial, trivial⟩ hc ?_
      refine ab_wk 1 (f' := (if (mi4 3 (((mi4 2 4) + y2)).toNatClampNeg) = r9 then 70 else 68, [some (.ref 2), some (.ref 1000006), some (.int y2)], [], 0, 0, (ab_G mi7 ml8))) rfl ⟨trivial, trivial⟩ ?_
      refine ab_wi (fun c => ?_) (fun c => ?_)
      · have h := h.1 c
        exact ab_wk 2 (f' := (28, [some (.ref 2), some (.ref 1000006), some (.int (y2 + 1))], [], 0, 0, (ab_G mi7 ml8))) rfl ⟨trivial, trivial, trivial⟩ h
      · have h := h.2 c
        exact ab_wr 2 rfl ⟨trivial, (Or.inl rfl)⟩ h
    · have h := h.2 c
      exact ab_wr 2 rfl ⟨trivial, (Or.inr rfl)⟩ h
  · have h := h.2 c
    exact ab_wr 2 rfl ⟨trivial, (Or.inr rfl)⟩ h
theorem vc_X7_takeWord_s6_0 {call : Nat → List Value → ab_S → Option Value → ab_S → Prop} {ro : ab_E} {Q : Option Value → ab_S → Prop}  (mi : Nat → Nat → Int32) (ml : Nat → Nat → Int64)
    (h : (((mi 5 1) = 0) → (∃ (r3 : Int32) (mi1 : Nat → Nat → Int32) (ml2 : Nat → Nat → Int64), call 86 [.ref 2, .ref 1000006] (ab_G mi ml) (some (.int r3)) (ab_G mi1 ml2) ∧ (((r3 = 0) → (∃ (mi4 : Nat → Nat → Int32) (ml5 : Nat → Nat → Int64), call 67 [.ref 5, .int 1] (ab_G mi1 ml2) none (ab_G mi4 ml5) ∧ (Q none (ab_G mi4 ml5)))) ∧ (¬ (r3 = 0) → (∃ (mi6 : Nat → Nat → Int32) (ml7 : Nat → Nat → Int64), call 85 [.ref 2] (ab_G mi1 ml2) none (ab_G mi6 ml7) ∧ (Q none (ab_G mi6 ml7))))))) ∧ (¬ ((mi 5 1) = 0) → (∃ (mi8 : Nat → Nat → Int32) (ml9 : Nat → Nat → Int64), call 67 [.ref 5, .int 1] (ab_G mi ml) none (ab_G mi8 ml9) ∧ (Q none (ab_G mi8 ml9))))) :
    ab_W call ro 0 0 (ab_lk2 pl_X7_takeWord) Q (0, [some (.ref 5), some (.ref 1000006)], [], 0, 0, ab_G mi ml) := by
  refine ab_wk 3 (f' := (if (mi 5 1) = 0 then 7 else 28, [some (.ref 5), some (.ref 1000006)], [], 0, 0, (ab_G mi ml))) rfl ⟨trivial, trivial, trivial, trivial⟩ ?_
  refine ab_wi (fun c => ?_) (fun c => ?_)
  · have h := h.1 c
    obtain ⟨r3, mi1, ml2, hc, h⟩ := h
    refine ab_wc 4 (c := 86) (as := [.ref 2, .ref 1000006]) (pc := 15) (ll := [some (.ref 5), some (.ref 1000006)]) (st := []) (c1 := 0) (s1 := 0) (g := (ab_G mi ml)) rfl ⟨trivial, trivial, trivial, trivial⟩ hc ?_
    refine ab_wk 1 (f' := (if r3 = 0 then 28 else 18, [some (.ref 5), some (.ref 1000006)], [], 0, 0, (ab_G mi1 ml2))) rfl ⟨trivial, trivial⟩ ?_
    refine ab_wi (fun c => ?_) (fun c => ?_)
    · have h := h.1 c
      obtain ⟨mi4, ml5, hc, h⟩ := h
      refine ab_wc 3 (c := 67) (as := [.ref 5, .int 1]) (pc := 33) (ll := [some (.ref 5), some (.ref 1000006)]) (st := []) (c1 := 0) (s1 := 0) (g := (ab_G mi1 ml2)) rfl ⟨trivial, trivial, trivial⟩ hc ?_
      exact ab_wr 1 rfl trivial h
    · have h := h.2 c
      obtain ⟨mi6, ml7, hc, h⟩ := h
      refine ab_wc 3 (c := 85) (as := [.ref 2]) (pc := 25) (ll := [some (.ref 5), some (.ref 1000006)]) (st := []) (c1 := 0) (s1 := 0) (g := (ab_G mi1 ml2)) rfl ⟨trivial, trivial, trivial⟩ hc ?_
      exact ab_wr 2 rfl ⟨trivial, trivial⟩ h
  · have h := h.2 c
    obtain ⟨mi8, ml9, hc, h⟩ := h
    refine ab_wc 3 (c := 67) (as := [.ref 5, .int 1]) (pc := 33) (ll := [some (.ref 5), some (.ref 1000006)]) (st := []) (c1 := 0) (s1 := 0) (g := (ab_G mi ml)) rfl ⟨trivial, trivial, trivial⟩ hc ?_
    exact ab_wr 1 rfl trivial h
theorem vc_X8_isWord_s7_0 {call : Nat → List Value → ab_S → Option Value → ab_S → Prop} {ro : ab_E} {Q : Option Value → ab_S → Prop}  (mi : Nat → Nat → Int32) (ml : Nat → Nat → Int64)
    (h : (((mi 2 3) = 2) → (∃ (r3 : Int32) (mi1 : Nat → Nat → Int32) (ml2 : Nat → Nat → Int64), call 244 [.ref 1000007] (ab_G mi ml) (some (.int r3)) (ab_G mi1 ml2) ∧ (((((mi 2 5) - (mi 2 4)) = r3) → (ab_W call ro 0 0 (ab_lk2 pl_X8_isWord) Q (28, [some (.ref 2), some (.ref 1000007), some (.int 0)], [], 0, 0, (ab_G mi1 ml2)))) ∧ (¬ (((mi 2 5) - (mi 2 4)) = r3) → (Q (some (.int 0)) (ab_G mi1 ml2)))))) ∧ (¬ ((mi 2 3) = 2) → (Q (some (.int 0)) (ab_G mi ml)))) :
    ab_W call ro 0 0 (ab_lk2 pl_X8_isWord) Q (0, [some (.ref 2), some (.ref 1000007), none], [], 0, 0, ab_G mi ml) := by
  refine ab_wk 4 (f' := (if (mi 2 3) = 2 then 8 else 24, [some (.ref 2), some (.ref 1000007), none], [], 0, 0, (ab_G mi ml))) rfl ⟨trivial, trivial, trivial, trivial, trivial⟩ ?_
  refine ab_wi (fun c => ?_) (fun c => ?_)
  · have h := h.1 c
    obtain ⟨r3, mi1, ml2, hc, h⟩ := h
    refine ab_wc 7 (c := 244) (as := [.ref 1000007]) (pc := 21) (ll := [some (.ref 2), some (.ref 1000007), none]) (st := [.int ((mi 2 5) - (mi 2 4))]) (c1 := 0) (s1 := 0) (g := (ab_G mi ml)) rfl ⟨trivial, trivial, trivial, trivial, trivial, trivial, trivial⟩ hc ?_
    refine ab_wk 1 (f' := (if ((mi 2 5) - (mi 2 4)) = r3 then 26 else 24, [some (.ref 2), some (.ref 1000007), none], [], 0, 0, (ab_G mi1 ml2))) rfl ⟨trivial, trivial⟩ ?_
    refine ab_wi (fun c => ?_) (fun c => ?_)
    · have h := h.1 c
      exact ab_wk 2 (f' := (28, [some (.ref 2), some (.ref 1000007), some (.int 0)], [], 0, 0, (ab_G mi1 ml2))) rfl ⟨trivial, trivial, trivial⟩ h
    · have h := h.2 c
      exact ab_wr 2 rfl ⟨trivial, (Or.inl rfl)⟩ h
  · have h := h.2 c
    exact ab_wr 2 rfl ⟨trivial, (Or.inl rfl)⟩ h
theorem vc_X8_isWord_s7_28 {call : Nat → List Value → ab_S → Option Value → ab_S → Prop} {ro : ab_E} {Q : Option Value → ab_S → Prop} (y2 : Int32) (mi : Nat → Nat → Int32) (ml : Nat → Nat → Int64)
    (h : ∃ (r6 : Int32) (mi4 : Nat → Nat → Int32) (ml5 : Nat → Nat → Int64), call 244 [.ref 1000007] (ab_G mi ml) (some (.int r6)) (ab_G mi4 ml5) ∧ (((y2 < r6) → (((((mi4 2 4) + y2) < (mi4 2 2)) → (vp_in ((mi4 2 4) + y2) 1000 ∧ (∃ (r9 : Int32) (mi7 : Nat → Nat → Int32) (ml8 : Nat → Nat → Int64), call 245 [.ref 1000007, .int y2] (ab_G mi4 ml5) (some (.int r9)) (ab_G mi7 ml8) ∧ ((((mi4 3 (((mi4 2 4) + y2)).toNatClampNeg) = r9) → (ab_W call ro 0 0 (ab_lk2 pl_X8_isWord) Q (28, [some (.ref 2), some (.ref 1000007), some (.int (y2 + 1))], [], 0, 0, (ab_G mi7 ml8)))) ∧ (¬ ((mi4 3 (((mi4 2 4) + y2)).toNatClampNeg) = r9) → (Q (some (.int 0)) (ab_G mi7 ml8))))))) ∧ (¬ (((mi4 2 4) + y2) < (mi4 2 2)) → (Q (some (.int 1)) (ab_G mi4 ml5))))) ∧ (¬ (y2 < r6) → (Q (some (.int 1)) (ab_G mi4 ml5))))) :
    ab_W call ro 0 0 (ab_lk2 pl_X8_isWord) Q (28, [some (.ref 2), some (.ref 1000007), some (.int y2)], [], 0, 0, ab_G mi ml) := by
  obtain ⟨r6, mi4, ml5, hc, h⟩ := h
  refine ab_wc 3 (c := 244) (as := [.ref 1000007]) (pc := 33) (ll := [some (.ref 2), some (.ref 1000007), some (.int y2)]) (st := [.int y2]) (c1 := 0) (s1 := 0) (g := (ab_G mi ml)) rfl ⟨trivial, trivial, trivial⟩ hc ?_
  refine ab_wk 1 (f' := (if y2 < r6 then 36 else 76, [some (.ref 2), some (.ref 1000007), some (.int y2)], [], 0, 0, (ab_G mi4 ml5))) rfl ⟨trivial, trivial⟩ ?_
  refine ab_wi (fun c => ?_) (fun c => ?_)
  · have h := h.1 c
    refine ab_wk 7 (f' := (if ((mi4 2 4) + y2) < (mi4 2 2) then 49 else 76, [some (.ref 2), some (.ref 1000007), some (.int y2)], [], 0, 0, (ab_G mi4 ml5))) rfl ⟨trivial, trivial, trivial, trivial, trivial, trivial, trivial, trivial⟩ ?_
    refine ab_wi (fun c => ?_) (fun c => ?_)
    · have h := h.1 c
      obtain ⟨p0, h⟩ := h
      obtain ⟨r9, mi7, ml8, hc, h⟩ := h
      refine ab_wc 10 (c := 245) (as := [.ref 1000007, .int y2]) (pc := 65) (ll := [some (.ref 2), some (.ref 1000007), some (.int y2)]) (st := [.int (mi4 3 (((mi4 2 4) + y2)).toNatClampNeg)]) (c1 := 0) (s1 := 0) (g := (ab_G mi4 ml5)) rfl ⟨trivial, trivial, trivial, trivial, trivial, trivial, p0, trivial, trivial, trivial⟩ hc ?_
      refine ab_wk 1 (f' := (if (mi4 3 (((mi4 2 4) + y2)).toNatClampNeg) = r9 then 70 else 68, [some (.ref 2), some (.ref 1000007), some (.int y2)], [], 0, 0, (ab_G mi7 ml8))) rfl ⟨trivial, trivial⟩ ?_
      refine ab_wi (fun c => ?_) (fun c => ?_)
      · have h := h.1 c
        exact ab_wk 2 (f' := (28, [some (.ref 2), some (.ref 1000007), some (.int (y2 + 1))], [], 0, 0, (ab_G mi7 ml8))) rfl ⟨trivial, trivial, trivial⟩ h
      · have h := h.2 c
        exact ab_wr 2 rfl ⟨trivial, (Or.inl rfl)⟩ h
    · have h := h.2 c
      exact ab_wr 2 rfl ⟨trivial, (Or.inr rfl)⟩ h
  · have h := h.2 c
    exact ab_wr 2 rfl ⟨trivial, (Or.inr rfl)⟩ h
theorem vc_X7_takeWord_s7_0 {call : Nat → List Value → ab_S → Option Value → ab_S → Prop} {ro : ab_E} {Q : Option Value → ab_S → Prop}  (mi : Nat → Nat → Int32) (ml : Nat → Nat → Int64)
    (h : (((mi 5 1) = 0) → (∃ (r3 : Int32) (mi1 : Nat → Nat → Int32) (ml2 : Nat → Nat → Int64), call 86 [.ref 2, .ref 1000007] (ab_G mi ml) (some (.int r3)) (ab_G mi1 ml2) ∧ (((r3 = 0) → (∃ (mi4 : Nat → Nat → Int32) (ml5 : Nat → Nat → Int64), call 67 [.ref 5, .int 1] (ab_G mi1 ml2) none (ab_G mi4 ml5) ∧ (Q none (ab_G mi4 ml5)))) ∧ (¬ (r3 = 0) → (∃ (mi6 : Nat → Nat → Int32) (ml7 : Nat → Nat → Int64), call 85 [.ref 2] (ab_G mi1 ml2) none (ab_G mi6 ml7) ∧ (Q none (ab_G mi6 ml7))))))) ∧ (¬ ((mi 5 1) = 0) → (∃ (mi8 : Nat → Nat → Int32) (ml9 : Nat → Nat → Int64), call 67 [.ref 5, .int 1] (ab_G mi ml) none (ab_G mi8 ml9) ∧ (Q none (ab_G mi8 ml9))))) :
    ab_W call ro 0 0 (ab_lk2 pl_X7_takeWord) Q (0, [some (.ref 5), some (.ref 1000007)], [], 0, 0, ab_G mi ml) := by
  refine ab_wk 3 (f' := (if (mi 5 1) = 0 then 7 else 28, [some (.ref 5), some (.ref 1000007)], [], 0, 0, (ab_G mi ml))) rfl ⟨trivial, trivial, trivial, trivial⟩ ?_
  refine ab_wi (fun c => ?_) (fun c => ?_)
  · have h := h.1 c
    obtain ⟨r3, mi1, ml2, hc, h⟩ := h
    refine ab_wc 4 (c := 86) (as := [.ref 2, .ref 1000007]) (pc := 15) (ll := [some (.ref 5), some (.ref 1000007)]) (st := []) (c1 := 0) (s1 := 0) (g := (ab_G mi ml)) rfl ⟨trivial, trivial, trivial, trivial⟩ hc ?_
    refine ab_wk 1 (f' := (if r3 = 0 then 28 else 18, [some (.ref 5), some (.ref 1000007)], [], 0, 0, (ab_G mi1 ml2))) rfl ⟨trivial, trivial⟩ ?_
    refine ab_wi (fun c => ?_) (fun c => ?_)
    · have h := h.1 c
      obtain ⟨mi4, ml5, hc, h⟩ := h
      refine ab_wc 3 (c := 67) (as := [.ref 5, .int 1]) (pc := 33) (ll := [some (.ref 5), some (.ref 1000007)]) (st := []) (c1 := 0) (s1 := 0) (g := (ab_G mi1 ml2)) rfl ⟨trivial, trivial, trivial⟩ hc ?_
      exact ab_wr 1 rfl trivial h
    · have h := h.2 c
      obtain ⟨mi6, ml7, hc, h⟩ := h
      refine ab_wc 3 (c := 85) (as := [.ref 2]) (pc := 25) (ll := [some (.ref 5), some (.ref 1000007)]) (st := []) (c1 := 0) (s1 := 0) (g := (ab_G mi1 ml2)) rfl ⟨trivial, trivial, trivial⟩ hc ?_
      exact ab_wr 2 rfl ⟨trivial, trivial⟩ h
  · have h := h.2 c
    obtain ⟨mi8, ml9, hc, h⟩ := h
    refine ab_wc 3 (c := 67) (as := [.ref 5, .int 1]) (pc := 33) (ll := [some (.ref 5), some (.ref 1000007)]) (st := []) (c1 := 0) (s1 := 0) (g := (ab_G mi ml)) rfl ⟨trivial, trivial, trivial⟩ hc ?_
    exact ab_wr 1 rfl trivial h
theorem vc_X8_isWord_s8_0 {call : Nat → List Value → ab_S → Option Value → ab_S → Prop} {ro : ab_E} {Q : Option Value → ab_S → Prop}  (mi : Nat → Nat → Int32) (ml : Nat → Nat → Int64)
    (h : (((mi 2 3) = 2) → (∃ (r3 : Int32) (mi1 : Nat → Nat → Int32) (ml2 : Nat → Nat → Int64), call 244 [.ref 1000008] (ab_G mi ml) (some (.int r3)) (ab_G mi1 ml2) ∧ (((((mi 2 5) - (mi 2 4)) = r3) → (ab_W call ro 0 0 (ab_lk2 pl_X8_isWord) Q (28, [some (.ref 2), some (.ref 1000008), some (.int 0)], [], 0, 0, (ab_G mi1 ml2)))) ∧ (¬ (((mi 2 5) - (mi 2 4)) = r3) → (Q (some (.int 0)) (ab_G mi1 ml2)))))) ∧ (¬ ((mi 2 3) = 2) → (Q (some (.int 0)) (ab_G mi ml)))) :
    ab_W call ro 0 0 (ab_lk2 pl_X8_isWord) Q (0, [some (.ref 2), some (.ref 1000008), none], [], 0, 0, ab_G mi ml) := by
  refine ab_wk 4 (f' := (if (mi 2 3) = 2 then 8 else 24, [some (.ref 2), some (.ref 1000008), none], [], 0, 0, (ab_G mi ml))) rfl ⟨trivial, trivial, trivial, trivial, trivial⟩ ?_
  refine ab_wi (fun c => ?_) (fun c => ?_)
  · have h := h.1 c
    obtain ⟨r3, mi1, ml2, hc, h⟩ := h
    refine ab_wc 7 (c := 244) (as := [.ref 1000008]) (pc := 21) (ll := [some (.ref 2), some (.ref 1000008), none]) (st := [.int ((mi 2 5) - (mi 2 4))]) (c1 := 0) (s1 := 0) (g := (ab_G mi ml)) rfl ⟨trivial, trivial, trivial, trivial, trivial, trivial, trivial⟩ hc ?_
    refine ab_wk 1 (f' := (if ((mi 2 5) - (mi 2 4)) = r3 then 26 else 24, [some (.ref 2), some (.ref 1000008), none], [], 0, 0, (ab_G mi1 ml2))) rfl ⟨trivial, trivial⟩ ?_
    refine ab_wi (fun c => ?_) (fun c => ?_)
    · have h := h.1 c
      exact ab_wk 2 (f' := (28, [some (.ref 2), some (.ref 1000008), some (.int 0)], [], 0, 0, (ab_G mi1 ml2))) rfl ⟨trivial, trivial, trivial⟩ h
    · have h := h.2 c
      exact ab_wr 2 rfl ⟨trivial, (Or.inl rfl)⟩ h
  · have h := h.2 c
    exact ab_wr 2 rfl ⟨trivial, (Or.inl rfl)⟩ h
theorem vc_X8_isWord_s8_28 {call : Nat → List Value → ab_S → Option Value → ab_S → Prop} {ro : ab_E} {Q : Option Value → ab_S → Prop} (y2 : Int32) (mi : Nat → Nat → Int32) (ml : Nat → Nat → Int64)
    (h : ∃ (r6 : Int32) (mi4 : Nat → Nat → Int32) (ml5 : Nat → Nat → Int64), call 244 [.ref 1000008] (ab_G mi ml) (some (.int r6)) (ab_G mi4 ml5) ∧ (((y2 < r6) → (((((mi4 2 4) + y2) < (mi4 2 2)) → (vp_in ((mi4 2 4) + y2) 1000 ∧ (∃ (r9 : Int32) (mi7 : Nat → Nat → Int32) (ml8 : Nat → Nat → Int64), call 245 [.ref 1000008, .int y2] (ab_G mi4 ml5) (some (.int r9)) (ab_G mi7 ml8) ∧ ((((mi4 3 (((mi4 2 4) + y2)).toNatClampNeg) = r9) → (ab_W call ro 0 0 (ab_lk2 pl_X8_isWord) Q (28, [some (.ref 2), some (.ref 1000008), some (.int (y2 + 1))], [], 0, 0, (ab_G mi7 ml8)))) ∧ (¬ ((mi4 3 (((mi4 2 4) + y2)).toNatClampNeg) = r9) → (Q (some (.int 0)) (ab_G mi7 ml8))))))) ∧ (¬ (((mi4 2 4) + y2) < (mi4 2 2)) → (Q (some (.int 1)) (ab_G mi4 ml5))))) ∧ (¬ (y2 < r6) → (Q (some (.int 1)) (ab_G mi4 ml5))))) :
    ab_W call ro 0 0 (ab_lk2 pl_X8_isWord) Q (28, [some (.ref 2), some (.ref 1000008), some (.int y2)], [], 0, 0, ab_G mi ml) := by
  obtain ⟨r6, mi4, ml5, hc, h⟩ := h
  refine ab_wc 3 (c := 244) (as := [.ref 1000008]) (pc := 33) (ll := [some (.ref 2), some (.ref 1000008), some (.int y2)]) (st := [.int y2]) (c1 := 0) (s1 := 0) (g := (ab_G mi ml)) rfl ⟨trivial, trivial, trivial⟩ hc ?_
  refine ab_wk 1 (f' := (if y2 < r6 then 36 else 76, [some (.ref 2), some (.ref 1000008), some (.int y2)], [], 0, 0, (ab_G mi4 ml5))) rfl ⟨trivial, trivial⟩ ?_
  refine ab_wi (fun c => ?_) (fun c => ?_)
  · have h := h.1 c
    refine ab_wk 7 (f' := (if ((mi4 2 4) + y2) < (mi4 2 2) then 49 else 76, [some (.ref 2), some (.ref 1000008), some (.int y2)], [], 0, 0, (ab_G mi4 ml5))) rfl ⟨trivial, trivial, trivial, trivial, trivial, trivial, trivial, trivial⟩ ?_
    refine ab_wi (fun c => ?_) (fun c => ?_)
    · have h := h.1 c
      obtain ⟨p0, h⟩ := h
      obtain ⟨r9, mi7, ml8, hc, h⟩ := h
      refine ab_wc 10 (c := 245) (as := [.ref 1000008, .int y2]) (pc := 65) (ll := [some (.ref 2), some (.ref 1000008), some (.int y2)]) (st := [.int (mi4 3 (((mi4 2 4) + y2)).toNatClampNeg)]) (c1 := 0) (s1 := 0) (g := (ab_G mi4 ml5)) rfl ⟨trivial, trivial, trivial, trivial, trivial, trivial, p0, trivial, trivial, trivial⟩ hc ?_
      refine ab_wk 1 (f' := (if (mi4 3 (((mi4 2 4) + y2)).toNatClampNeg) = r9 then 70 else 68, [some (.ref 2), some (.ref 1000008), some (.int y2)], [], 0, 0, (ab_G mi7 ml8))) rfl ⟨trivial, trivial⟩ ?_
      refine ab_wi (fun c => ?_) (fun c => ?_)
      · have h := h.1 c
        exact ab_wk 2 (f' := (28, [some (.ref 2), some (.ref 1000008), some (.int (y2 + 1))], [], 0, 0, (ab_G mi7 ml8))) rfl ⟨trivial, trivial, trivial⟩ h
      · have h := h.2 c
        exact ab_wr 2 rfl ⟨trivial, (Or.inl rfl)⟩ h
    · have h := h.2 c
      exact ab_wr 2 rfl ⟨trivial, (Or.inr rfl)⟩ h
  · have h := h.2 c
    exact ab_wr 2 rfl ⟨trivial, (Or.inr rfl)⟩ h
theorem vc_X7_takeWord_s8_0 {call : Nat → List Value → ab_S → Option Value → ab_S → Prop} {ro : ab_E} {Q : Option Value → ab_S → Prop}  (mi : Nat → Nat → Int32) (ml : Nat → Nat → Int64)
    (h : (((mi 5 1) = 0) → (∃ (r3 : Int32) (mi1 : Nat → Nat → Int32) (ml2 : Nat → Nat → Int64), call 86 [.ref 2, .ref 1000008] (ab_G mi ml) (some (.int r3)) (ab_G mi1 ml2) ∧ (((r3 = 0) → (∃ (mi4 : Nat → Nat → Int32) (ml5 : Nat → Nat → Int64), call 67 [.ref 5, .int 1] (ab_G mi1 ml2) none (ab_G mi4 ml5) ∧ (Q none (ab_G mi4 ml5)))) ∧ (¬ (r3 = 0) → (∃ (mi6 : Nat → Nat → Int32) (ml7 : Nat → Nat → Int64), call 85 [.ref 2] (ab_G mi1 ml2) none (ab_G mi6 ml7) ∧ (Q none (ab_G mi6 ml7))))))) ∧ (¬ ((mi 5 1) = 0) → (∃ (mi8 : Nat → Nat → Int32) (ml9 : Nat → Nat → Int64), call 67 [.ref 5, .int 1] (ab_G mi ml) none (ab_G mi8 ml9) ∧ (Q none (ab_G mi8 ml9))))) :
    ab_W call ro 0 0 (ab_lk2 pl_X7_takeWord) Q (0, [some (.ref 5), some (.ref 1000008)], [], 0, 0, ab_G mi ml) := by
  refine ab_wk 3 (f' := (if (mi 5 1) = 0 then 7 else 28, [some (.ref 5), some (.ref 1000008)], [], 0, 0, (ab_G mi ml))) rfl ⟨trivial, trivial, trivial, trivial⟩ ?_
  refine ab_wi (fun c => ?_) (fun c => ?_)
  · have h := h.1 c
    obtain ⟨r3, mi1, ml2, hc, h⟩ := h
    refine ab_wc 4 (c := 86) (as := [.ref 2, .ref 1000008]) (pc := 15) (ll := [some (.ref 5), some (.ref 1000008)]) (st := []) (c1 := 0) (s1 := 0) (g := (ab_G mi ml)) rfl ⟨trivial, trivial, trivial, trivial⟩ hc ?_
    refine ab_wk 1 (f' := (if r3 = 0 then 28 else 18, [some (.ref 5), some (.ref 1000008)], [], 0, 0, (ab_G mi1 ml2))) rfl ⟨trivial, trivial⟩ ?_
    refine ab_wi (fun c => ?_) (fun c => ?_)
    · have h := h.1 c
      obtain ⟨mi4, ml5, hc, h⟩ := h
      refine ab_wc 3 (c := 67) (as := [.ref 5, .int 1]) (pc := 33) (ll := [some (.ref 5), some (.ref 1000008)]) (st := []) (c1 := 0) (s1 := 0) (g := (ab_G mi1 ml2)) rfl ⟨trivial, trivial, trivial⟩ hc ?_
      exact ab_wr 1 rfl trivial h
    · have h := h.2 c
      obtain ⟨mi6, ml7, hc, h⟩ := h
      refine ab_wc 3 (c := 85) (as := [.ref 2]) (pc := 25) (ll := [some (.ref 5), some (.ref 1000008)]) (st := []) (c1 := 0) (s1 := 0) (g := (ab_G mi1 ml2)) rfl ⟨trivial, trivial, trivial⟩ hc ?_
      exact ab_wr 2 rfl ⟨trivial, trivial⟩ h
  · have h := h.2 c
    obtain ⟨mi8, ml9, hc, h⟩ := h
    refine ab_wc 3 (c := 67) (as := [.ref 5, .int 1]) (pc := 33) (ll := [some (.ref 5), some (.ref 1000008)]) (st := []) (c1 := 0) (s1 := 0) (g := (ab_G mi ml)) rfl ⟨trivial, trivial, trivial⟩ hc ?_
    exact ab_wr 1 rfl trivial h
theorem vc_X8_isWord_s9_0 {call : Nat → List Value → ab_S → Option Value → ab_S → Prop} {ro : ab_E} {Q : Option Value → ab_S → Prop}  (mi : Nat → Nat → Int32) (ml : Nat → Nat → Int64)
    (h : (((mi 2 3) = 2) → (∃ (r3 : Int32) (mi1 : Nat → Nat → Int32) (ml2 : Nat → Nat → Int64), call 244 [.ref 1000009] (ab_G mi ml) (some (.int r3)) (ab_G mi1 ml2) ∧ (((((mi 2 5) - (mi 2 4)) = r3) → (ab_W call ro 0 0 (ab_lk2 pl_X8_isWord) Q (28, [some (.ref 2), some (.ref 1000009), some (.int 0)], [], 0, 0, (ab_G mi1 ml2)))) ∧ (¬ (((mi 2 5) - (mi 2 4)) = r3) → (Q (some (.int 0)) (ab_G mi1 ml2)))))) ∧ (¬ ((mi 2 3) = 2) → (Q (some (.int 0)) (ab_G mi ml)))) :
    ab_W call ro 0 0 (ab_lk2 pl_X8_isWord) Q (0, [some (.ref 2), some (.ref 1000009), none], [], 0, 0, ab_G mi ml) := by
  refine ab_wk 4 (f' := (if (mi 2 3) = 2 then 8 else 24, [some (.ref 2), some (.ref 1000009), none], [], 0, 0, (ab_G mi ml))) rfl ⟨trivial, trivial, trivial, trivial, trivial⟩ ?_
  refine ab_wi (fun c => ?_) (fun c => ?_)
  · have h := h.1 c
    obtain ⟨r3, mi1, ml2, hc, h⟩ := h
    refine ab_wc 7 (c := 244) (as := [.ref 1000009]) (pc := 21) (ll := [some (.ref 2), some (.ref 1000009), none]) (st := [.int ((mi 2 5) - (mi 2 4))]) (c1 := 0) (s1 := 0) (g := (ab_G mi ml)) rfl ⟨trivial, trivial, trivial, trivial, trivial, trivial, trivial⟩ hc ?_
    refine ab_wk 1 (f' := (if ((mi 2 5) - (mi 2 4)) = r3 then 26 else 24, [some (.ref 2), some (.ref 1000009), none], [], 0, 0, (ab_G mi1 ml2))) rfl ⟨trivial, trivial⟩ ?_
    refine ab_wi (fun c => ?_) (fun c => ?_)
    · have h := h.1 c
      exact ab_wk 2 (f' := (28, [some (.ref 2), some (.ref 1000009), some (.int 0)], [], 0, 0, (ab_G mi1 ml2))) rfl ⟨trivial, trivial, trivial⟩ h
    · have h := h.2 c
      exact ab_wr 2 rfl ⟨trivial, (Or.inl rfl)⟩ h
  · have h := h.2 c
    exact ab_wr 2 rfl ⟨trivial, (Or.inl rfl)⟩ h
theorem vc_X8_isWord_s9_28 {call : Nat → List Value → ab_S → Option Value → ab_S → Prop} {ro : ab_E} {Q : Option Value → ab_S → Prop} (y2 : Int32) (mi : Nat → Nat → Int32) (ml : Nat → Nat → Int64)
    (h : ∃ (r6 : Int32) (mi4 : Nat → Nat → Int32) (ml5 : Nat → Nat → Int64), call 244 [.ref 1000009] (ab_G mi ml) (some (.int r6)) (ab_G mi4 ml5) ∧ (((y2 < r6) → (((((mi4 2 4) + y2) < (mi4 2 2)) → (vp_in ((mi4 2 4) + y2) 1000 ∧ (∃ (r9 : Int32) (mi7 : Nat → Nat → Int32) (ml8 : Nat → Nat → Int64), call 245 [.ref 1000009, .int y2] (ab_G mi4 ml5) (some (.int r9)) (ab_G mi7 ml8) ∧ ((((mi4 3 (((mi4 2 4) + y2)).toNatClampNeg) = r9) → (ab_W call ro 0 0 (ab_lk2 pl_X8_isWord) Q (28, [some (.ref 2), some (.ref 1000009), some (.int (y2 + 1))], [], 0, 0, (ab_G mi7 ml8)))) ∧ (¬ ((mi4 3 (((mi4 2 4) + y2)).toNatClampNeg) = r9) → (Q (some (.int 0)) (ab_G mi7 ml8))))))) ∧ (¬ (((mi4 2 4) + y2) < (mi4 2 2)) → (Q (some (.int 1)) (ab_G mi4 ml5))))) ∧ (¬ (y2 < r6) → (Q (some (.int 1)) (ab_G mi4 ml5))))) :
    ab_W call ro 0 0 (ab_lk2 pl_X8_isWord) Q (28, [some (.ref 2), some (.ref 1000009), some (.int y2)], [], 0, 0, ab_G mi ml) := by
  obtain ⟨r6, mi4, ml5, hc, h⟩ := h
  refine ab_wc 3 (c := 244) (as := [.ref 1000009]) (pc := 33) (ll := [some (.ref 2), some (.ref 1000009), some (.int y2)]) (st := [.int y2]) (c1 := 0) (s1 := 0) (g := (ab_G mi ml)) rfl ⟨trivial, trivial, trivial⟩ hc ?_
  refine ab_wk 1 (f' := (if y2 < r6 then 36 else 76, [some (.ref 2), some (.ref 1000009), some (.int y2)], [], 0, 0, (ab_G mi4 ml5))) rfl ⟨trivial, trivial⟩ ?_
  refine ab_wi (fun c => ?_) (fun c => ?_)
  · have h := h.1 c
    refine ab_wk 7 (f' := (if ((mi4 2 4) + y2) < (mi4 2 2) then 49 else 76, [some (.ref 2), some (.ref 1000009), some (.int y2)], [], 0, 0, (ab_G mi4 ml5))) rfl ⟨trivial, trivial, trivial, trivial, trivial, trivial, trivial, trivial⟩ ?_
    refine ab_wi (fun c => ?_) (fun c => ?_)
    · have h := h.1 c
      obtain ⟨p0, h⟩ := h
      obtain ⟨r9, mi7, ml8, hc, h⟩ := h
      refine ab_wc 10 (c := 245) (as := [.ref 1000009, .int y2]) (pc := 65) (ll := [some (.ref 2), some (.ref 1000009), some (.int y2)]) (st := [.int (mi4 3 (((mi4 2 4) + y2)).toNatClampNeg)]) (c1 := 0) (s1 := 0) (g := (ab_G mi4 ml5)) rfl ⟨trivial, trivial, trivial, trivial, trivial, trivial, p0, trivial, trivial, trivial⟩ hc ?_
      refine ab_wk 1 (f' := (if (mi4 3 (((mi4 2 4) + y2)).toNatClampNeg) = r9 then 70 else 68, [some (.ref 2), some (.ref 1000009), some (.int y2)], [], 0, 0, (ab_G mi7 ml8))) rfl ⟨trivial, trivial⟩ ?_
      refine ab_wi (fun c => ?_) (fun c => ?_)
      · have h := h.1 c
        exact ab_wk 2 (f' := (28, [some (.ref 2), some (.ref 1000009), some (.int (y2 + 1))], [], 0, 0, (ab_G mi7 ml8))) rfl ⟨trivial, trivial, trivial⟩ h
      · have h := h.2 c
        exact ab_wr 2 rfl ⟨trivial, (Or.inl rfl)⟩ h
    · have h := h.2 c
      exact ab_wr 2 rfl ⟨trivial, (Or.inr rfl)⟩ h
  · have h := h.2 c
    exact ab_wr 2 rfl ⟨trivial, (Or.inr rfl)⟩ h
theorem vc_X7_takeWord_s9_0 {call : Nat → List Value → ab_S → Option Value → ab_S → Prop} {ro : ab_E} {Q : Option Value → ab_S → Prop}  (mi : Nat → Nat → Int32) (ml : Nat → Nat → Int64)
    (h : (((mi 5 1) = 0) → (∃ (r3 : Int32) (mi1 : Nat → Nat → Int32) (ml2 : Nat → Nat → Int64), call 86 [.ref 2, .ref 1000009] (ab_G mi ml) (some (.int r3)) (ab_G mi1 ml2) ∧ (((r3 = 0) → (∃ (mi4 : Nat → Nat → Int32) (ml5 : Nat → Nat → Int64), call 67 [.ref 5, .int 1] (ab_G mi1 ml2) none (ab_G mi4 ml5) ∧ (Q none (ab_G mi4 ml5)))) ∧ (¬ (r3 = 0) → (∃ (mi6 : Nat → Nat → Int32) (ml7 : Nat → Nat → Int64), call 85 [.ref 2] (ab_G mi1 ml2) none (ab_G mi6 ml7) ∧ (Q none (ab_G mi6 ml7))))))) ∧ (¬ ((mi 5 1) = 0) → (∃ (mi8 : Nat → Nat → Int32) (ml9 : Nat → Nat → Int64), call 67 [.ref 5, .int 1] (ab_G mi ml) none (ab_G mi8 ml9) ∧ (Q none (ab_G mi8 ml9))))) :
    ab_W call ro 0 0 (ab_lk2 pl_X7_takeWord) Q (0, [some (.ref 5), some (.ref 1000009)], [], 0, 0, ab_G mi ml) := by
  refine ab_wk 3 (f' := (if (mi 5 1) = 0 then 7 else 28, [some (.ref 5), some (.ref 1000009)], [], 0, 0, (ab_G mi ml))) rfl ⟨trivial, trivial, trivial, trivial⟩ ?_
  refine ab_wi (fun c => ?_) (fun c => ?_)
  · have h := h.1 c
    obtain ⟨r3, mi1, ml2, hc, h⟩ := h
    refine ab_wc 4 (c := 86) (as := [.ref 2, .ref 1000009]) (pc := 15) (ll := [some (.ref 5), some (.ref 1000009)]) (st := []) (c1 := 0) (s1 := 0) (g := (ab_G mi ml)) rfl ⟨trivial, trivial, trivial, trivial⟩ hc ?_
    refine ab_wk 1 (f' := (if r3 = 0 then 28 else 18, [some (.ref 5), some (.ref 1000009)], [], 0, 0, (ab_G mi1 ml2))) rfl ⟨trivial, trivial⟩ ?_
    refine ab_wi (fun c => ?_) (fun c => ?_)
    · have h := h.1 c
      obtain ⟨mi4, ml5, hc, h⟩ := h
      refine ab_wc 3 (c := 67) (as := [.ref 5, .int 1]) (pc := 33) (ll := [some (.ref 5), some (.ref 1000009)]) (st := []) (c1 := 0) (s1 := 0) (g := (ab_G mi1 ml2)) rfl ⟨trivial, trivial, trivial⟩ hc ?_
      exact ab_wr 1 rfl trivial h
    · have h := h.2 c
      obtain ⟨mi6, ml7, hc, h⟩ := h
      refine ab_wc 3 (c := 85) (as := [.ref 2]) (pc := 25) (ll := [some (.ref 5), some (.ref 1000009)]) (st := []) (c1 := 0) (s1 := 0) (g := (ab_G mi1 ml2)) rfl ⟨trivial, trivial, trivial⟩ hc ?_
      exact ab_wr 2 rfl ⟨trivial, trivial⟩ h
  · have h := h.2 c
    obtain ⟨mi8, ml9, hc, h⟩ := h
    refine ab_wc 3 (c := 67) (as := [.ref 5, .int 1]) (pc := 33) (ll := [some (.ref 5), some (.ref 1000009)]) (st := []) (c1 := 0) (s1 := 0) (g := (ab_G mi ml)) rfl ⟨trivial, trivial, trivial⟩ hc ?_
    exact ab_wr 1 rfl trivial h
theorem vc_X8_isWord_s10_0 {call : Nat → List Value → ab_S → Option Value → ab_S → Prop} {ro : ab_E} {Q : Option Value → ab_S → Prop}  (mi : Nat → Nat → Int32) (ml : Nat → Nat → Int64)
    (h : (((mi 2 3) = 2) → (∃ (r3 : Int32) (mi1 : Nat → Nat → Int32) (ml2 : Nat → Nat → Int64), call 244 [.ref 1000010] (ab_G mi ml) (some (.int r3)) (ab_G mi1 ml2) ∧ (((((mi 2 5) - (mi 2 4)) = r3) → (ab_W call ro 0 0 (ab_lk2 pl_X8_isWord) Q (28, [some (.ref 2), some (.ref 1000010), some (.int 0)], [], 0, 0, (ab_G mi1 ml2)))) ∧ (¬ (((mi 2 5) - (mi 2 4)) = r3) → (Q (some (.int 0)) (ab_G mi1 ml2)))))) ∧ (¬ ((mi 2 3) = 2) → (Q (some (.int 0)) (ab_G mi ml)))) :
    ab_W call ro 0 0 (ab_lk2 pl_X8_isWord) Q (0, [some (.ref 2), some (.ref 1000010), none], [], 0, 0, ab_G mi ml) := by
  refine ab_wk 4 (f' := (if (mi 2 3) = 2 then 8 else 24, [some (.ref 2), some (.ref 1000010), none], [], 0, 0, (ab_G mi ml))) rfl ⟨trivial, trivial, trivial, trivial, trivial⟩ ?_
  refine ab_wi (fun c => ?_) (fun c => ?_)
  · have h := h.1 c
    obtain ⟨r3, mi1, ml2, hc, h⟩ := h
    refine ab_wc 7 (c := 244) (as := [.ref 1000010]) (pc := 21) (ll := [some (.ref 2), some (.ref 1000010), none]) (st := [.int ((mi 2 5) - (mi 2 4))]) (c1 := 0) (s1 := 0) (g := (ab_G mi ml)) rfl ⟨trivial, trivial, trivial, trivial, trivial, trivial, trivial⟩ hc ?_
    refine ab_wk 1 (f' := (if ((mi 2 5) - (mi 2 4)) = r3 then 26 else 24, [some (.ref 2), some (.ref 1000010), none], [], 0, 0, (ab_G mi1 ml2))) rfl ⟨trivial, trivial⟩ ?_
    refine ab_wi (fun c => ?_) (fun c => ?_)
    · have h := h.1 c
      exact ab_wk 2 (f' := (28, [some (.ref 2), some (.ref 1000010), some (.int 0)], [], 0, 0, (ab_G mi1 ml2))) rfl ⟨trivial, trivial, trivial⟩ h
    · have h := h.2 c
      exact ab_wr 2 rfl ⟨trivial, (Or.inl rfl)⟩ h
  · have h := h.2 c
    exact ab_wr 2 rfl ⟨trivial, (Or.inl rfl)⟩ h
theorem vc_X8_isWord_s10_28 {call : Nat → List Value → ab_S → Option Value → ab_S → Prop} {ro : ab_E} {Q : Option Value → ab_S → Prop} (y2 : Int32) (mi : Nat → Nat → Int32) (ml : Nat → Nat → Int64)
    (h : ∃ (r6 : Int32) (mi4 : Nat → Nat → Int32) (ml5 : Nat → Nat → Int64), call 244 [.ref 1000010] (ab_G mi ml) (some (.int r6)) (ab_G mi4 ml5) ∧ (((y2 < r6) → (((((mi4 2 4) + y2) < (mi4 2 2)) → (vp_in ((mi4 2 4) + y2) 1000 ∧ (∃ (r9 : Int32) (mi7 : Nat → Nat → Int32) (ml8 : Nat → Nat → Int64), call 245 [.ref 1000010, .int y2] (ab_G mi4 ml5) (some (.int r9)) (ab_G mi7 ml8) ∧ ((((mi4 3 (((mi4 2 4) + y2)).toNatClampNeg) = r9) → (ab_W call ro 0 0 (ab_lk2 pl_X8_isWord) Q (28, [some (.ref 2), some (.ref 1000010), some (.int (y2 + 1))], [], 0, 0, (ab_G mi7 ml8)))) ∧ (¬ ((mi4 3 (((mi4 2 4) + y2)).toNatClampNeg) = r9) → (Q (some (.int 0)) (ab_G mi7 ml8))))))) ∧ (¬ (((mi4 2 4) + y2) < (mi4 2 2)) → (Q (some (.int 1)) (ab_G mi4 ml5))))) ∧ (¬ (y2 < r6) → (Q (some (.int 1)) (ab_G mi4 ml5))))) :
    ab_W call ro 0 0 (ab_lk2 pl_X8_isWord) Q (28, [some (.ref 2), some (.ref 1000010), some (.int y2)], [], 0, 0, ab_G mi ml) := by
  obtain ⟨r6, mi4, ml5, hc, h⟩ := h
  refine ab_wc 3 (c := 244) (as := [.ref 1000010]) (pc := 33) (ll := [some (.ref 2), some (.ref 1000010), some (.int y2)]) (st := [.int y2]) (c1 := 0) (s1 := 0) (g := (ab_G mi ml)) rfl ⟨trivial, trivial, trivial⟩ hc ?_
  refine ab_wk 1 (f' := (if y2 < r6 then 36 else 76, [some (.ref 2), some (.ref 1000010), some (.int y2)], [], 0, 0, (ab_G mi4 ml5))) rfl ⟨trivial, trivial⟩ ?_
  refine ab_wi (fun c => ?_) (fun c => ?_)
  · have h := h.1 c
    refine ab_wk 7 (f' := (if ((mi4 2 4) + y2) < (mi4 2 2) then 49 else 76, [some (.ref 2), some (.ref 1000010), some (.int y2)], [], 0, 0, (ab_G mi4 ml5))) rfl ⟨trivial, trivial, trivial, trivial, trivial, trivial, trivial, trivial⟩ ?_
    refine ab_wi (fun c => ?_) (fun c => ?_)
    · have h := h.1 c
      obtain ⟨p0, h⟩ := h
      obtain ⟨r9, mi7, ml8, hc, h⟩ := h
      refine ab_wc 10 (c := 245) (as := [.ref 1000010, .int y2]) (pc := 65) (ll := [some (.ref 2), some (.ref 1000010), some (.int y2)]) (st := [.int (mi4 3 (((mi4 2 4) + y2)).toNatClampNeg)]) (c1 := 0) (s1 := 0) (g := (ab_G mi4 ml5)) rfl ⟨trivial, trivial, trivial, trivial, trivial, trivial, p0, trivial, trivial, trivial⟩ hc ?_
      refine ab_wk 1 (f' := (if (mi4 3 (((mi4 2 4) + y2)).toNatClampNeg) = r9 then 70 else 68, [some (.ref 2), some (.ref 1000010), some (.int y2)], [], 0, 0, (ab_G mi7 ml8))) rfl ⟨trivial, trivial⟩ ?_
      refine ab_wi (fun c => ?_) (fun c => ?_)
      · have h := h.1 c
        exact ab_wk 2 (f' := (28, [some (.ref 2), some (.ref 1000010), some (.int (y2 + 1))], [], 0, 0, (ab_G mi7 ml8))) rfl ⟨trivial, trivial, trivial⟩ h
      · have h := h.2 c
        exact ab_wr 2 rfl ⟨trivial, (Or.inl rfl)⟩ h
    · have h := h.2 c
      exact ab_wr 2 rfl ⟨trivial, (Or.inr rfl)⟩ h
  · have h := h.2 c
    exact ab_wr 2 rfl ⟨trivial, (Or.inr rfl)⟩ h
theorem vc_X7_takeWord_s10_0 {call : Nat → List Value → ab_S → Option Value → ab_S → Prop} {ro : ab_E} {Q : Option Value → ab_S → Prop}  (mi : Nat → Nat → Int32) (ml : Nat → Nat → Int64)
    (h : (((mi 5 1) = 0) → (∃ (r3 : Int32) (mi1 : Nat → Nat → Int32) (ml2 : Nat → Nat → Int64), call 86 [.ref 2, .ref 1000010] (ab_G mi ml) (some (.int r3)) (ab_G mi1 ml2) ∧ (((r3 = 0) → (∃ (mi4 : Nat → Nat → Int32) (ml5 : Nat → Nat → Int64), call 67 [.ref 5, .int 1] (ab_G mi1 ml2) none (ab_G mi4 ml5) ∧ (Q none (ab_G mi4 ml5)))) ∧ (¬ (r3 = 0) → (∃ (mi6 : Nat → Nat → Int32) (ml7 : Nat → Nat → Int64), call 85 [.ref 2] (ab_G mi1 ml2) none (ab_G mi6 ml7) ∧ (Q none (ab_G mi6 ml7))))))) ∧ (¬ ((mi 5 1) = 0) → (∃ (mi8 : Nat → Nat → Int32) (ml9 : Nat → Nat → Int64), call 67 [.ref 5, .int 1] (ab_G mi ml) none (ab_G mi8 ml9) ∧ (Q none (ab_G mi8 ml9))))) :
    ab_W call ro 0 0 (ab_lk2 pl_X7_takeWord) Q (0, [some (.ref 5), some (.ref 1000010)], [], 0, 0, ab_G mi ml) := by
  refine ab_wk 3 (f' := (if (mi 5 1) = 0 then 7 else 28, [some (.ref 5), some (.ref 1000010)], [], 0, 0, (ab_G mi ml))) rfl ⟨trivial, trivial, trivial, trivial⟩ ?_
  refine ab_wi (fun c => ?_) (fun c => ?_)
  · have h := h.1 c
    obtain ⟨r3, mi1, ml2, hc, h⟩ := h
    refine ab_wc 4 (c := 86) (as := [.ref 2, .ref 1000010]) (pc := 15) (ll := [some (.ref 5), some (.ref 1000010)]) (st := []) (c1 := 0) (s1 := 0) (g := (ab_G mi ml)) rfl ⟨trivial, trivial, trivial, trivial⟩ hc ?_
    refine ab_wk 1 (f' := (if r3 = 0 then 28 else 18, [some (.ref 5), some (.ref 1000010)], [], 0, 0, (ab_G mi1 ml2))) rfl ⟨trivial, trivial⟩ ?_
    refine ab_wi (fun c => ?_) (fun c => ?_)
    · have h := h.1 c
      obtain ⟨mi4, ml5, hc, h⟩ := h
      refine ab_wc 3 (c := 67) (as := [.ref 5, .int 1]) (pc := 33) (ll := [some (.ref 5), some (.ref 1000010)]) (st := []) (c1 := 0) (s1 := 0) (g := (ab_G mi1 ml2)) rfl ⟨trivial, trivial, trivial⟩ hc ?_
      exact ab_wr 1 rfl trivial h
    · have h := h.2 c
      obtain ⟨mi6, ml7, hc, h⟩ := h
      refine ab_wc 3 (c := 85) (as := [.ref 2]) (pc := 25) (ll := [some (.ref 5), some (.ref 1000010)]) (st := []) (c1 := 0) (s1 := 0) (g := (ab_G mi1 ml2)) rfl ⟨trivial, trivial, trivial⟩ hc ?_
      exact ab_wr 2 rfl ⟨trivial, trivial⟩ h
  · have h := h.2 c
    obtain ⟨mi8, ml9, hc, h⟩ := h
    refine ab_wc 3 (c := 67) (as := [.ref 5, .int 1]) (pc := 33) (ll := [some (.ref 5), some (.ref 1000010)]) (st := []) (c1 := 0) (s1 := 0) (g := (ab_G mi ml)) rfl ⟨trivial, trivial, trivial⟩ hc ?_
    exact ab_wr 1 rfl trivial h
theorem vc_X8_isWord_s11_0 {call : Nat → List Value → ab_S → Option Value → ab_S → Prop} {ro : ab_E} {Q : Option Value → ab_S → Prop}  (mi : Nat → Nat → Int32) (ml : Nat → Nat → Int64)
    (h : (((mi 2 3) = 2) → (∃ (r3 : Int32) (mi1 : Nat → Nat → Int32) (ml2 : Nat → Nat → Int64), call 244 [.ref 1000011] (ab_G mi ml) (some (.int r3)) (ab_G mi1 ml2) ∧ (((((mi 2 5) - (mi 2 4)) = r3) → (ab_W call ro 0 0 (ab_lk2 pl_X8_isWord) Q (28, [some (.ref 2), some (.ref 1000011), some (.int 0)], [], 0, 0, (ab_G mi1 ml2)))) ∧ (¬ (((mi 2 5) - (mi 2 4)) = r3) → (Q (some (.int 0)) (ab_G mi1 ml2)))))) ∧ (¬ ((mi 2 3) = 2) → (Q (some (.int 0)) (ab_G mi ml)))) :
    ab_W call ro 0 0 (ab_lk2 pl_X8_isWord) Q (0, [some (.ref 2), some (.ref 1000011), none], [], 0, 0, ab_G mi ml) := by
  refine ab_wk 4 (f' := (if (mi 2 3) = 2 then 8 else 24, [some (.ref 2), some (.ref 1000011), none], [], 0, 0, (ab_G mi ml))) rfl ⟨trivial, trivial, trivial, trivial, trivial⟩ ?_
  refine ab_wi (fun c => ?_) (fun c => ?_)
  · have h := h.1 c
    obtain ⟨r3, mi1, ml2, hc, h⟩ := h
    refine ab_wc 7 (c := 244) (as := [.ref 1000011]) (pc := 21) (ll := [some (.ref 2), some (.ref 1000011), none]) (st := [.int ((mi 2 5) - (mi 2 4))]) (c1 := 0) (s1 := 0) (g := (ab_G mi ml)) rfl ⟨trivial, trivial, trivial, trivial, trivial, trivial, trivial⟩ hc ?_
    refine ab_wk 1 (f' := (if ((mi 2 5) - (mi 2 4)) = r3 then 26 else 24, [some (.ref 2), some (.ref 1000011), none], [], 0, 0, (ab_G mi1 ml2))) rfl ⟨trivial, trivial⟩ ?_
    refine ab_wi (fun c => ?_) (fun c => ?_)
    · have h := h.1 c
      exact ab_wk 2 (f' := (28, [some (.ref 2), some (.ref 1000011), some (.int 0)], [], 0, 0, (ab_G mi1 ml2))) rfl ⟨trivial, trivial, trivial⟩ h
    · have h := h.2 c
      exact ab_wr 2 rfl ⟨trivial, (Or.inl rfl)⟩ h
  · have h := h.2 c
    exact ab_wr 2 rfl ⟨trivial, (Or.inl rfl)⟩ h
theorem vc_X8_isWord_s11_28 {call : Nat → List Value → ab_S → Option Value → ab_S → Prop} {ro : ab_E} {Q : Option Value → ab_S → Prop} (y2 : Int32) (mi : Nat → Nat → Int32) (ml : Nat → Nat → Int64)
    (h : ∃ (r6 : Int32) (mi4 : Nat → Nat → Int32) (ml5 : Nat → Nat → Int64), call 244 [.ref 1000011] (ab_G mi ml) (some (.int r6)) (ab_G mi4 ml5) ∧ (((y2 < r6) → (((((mi4 2 4) + y2) < (mi4 2 2)) → (vp_in ((mi4 2 4) + y2) 1000 ∧ (∃ (r9 : Int32) (mi7 : Nat → Nat → Int32) (ml8 : Nat → Nat → Int64), call 245 [.ref 1000011, .int y2] (ab_G mi4 ml5) (some (.int r9)) (ab_G mi7 ml8) ∧ ((((mi4 3 (((mi4 2 4) + y2)).toNatClampNeg) = r9) → (ab_W call ro 0 0 (ab_lk2 pl_X8_isWord) Q (28, [some (.ref 2), some (.ref 1000011), some (.int (y2 + 1))], [], 0, 0, (ab_G mi7 ml8)))) ∧ (¬ ((mi4 3 (((mi4 2 4) + y2)).toNatClampNeg) = r9) → (Q (some (.int 0)) (ab_G mi7 ml8))))))) ∧ (¬ (((mi4 2 4) + y2) < (mi4 2 2)) → (Q (some (.int 1)) (ab_G mi4 ml5))))) ∧ (¬ (y2 < r6) → (Q (some (.int 1)) (ab_G mi4 ml5))))) :
    ab_W call ro 0 0 (ab_lk2 pl_X8_isWord) Q (28, [some (.ref 2), some (.ref 1000011), some (.int y2)], [], 0, 0, ab_G mi ml) := by
  obtain ⟨r6, mi4, ml5, hc, h⟩ := h
  refine ab_wc 3 (c := 244) (as := [.ref 1000011]) (pc := 33) (ll := [some (.ref 2), some (.ref 1000011), some (.int y2)]) (st := [.int y2]) (c1 := 0) (s1 := 0) (g := (ab_G mi ml)) rfl ⟨trivial, trivial, trivial⟩ hc ?_
  refine ab_wk 1 (f' := (if y2 < r6 then 36 else 76, [some (.ref 2), some (.ref 1000011), some (.int y2)], [], 0, 0, (ab_G mi4 ml5))) rfl ⟨trivial, trivial⟩ ?_
  refine ab_wi (fun c => ?_) (fun c => ?_)
  · have h := h.1 c
    refine ab_wk 7 (f' := (if ((mi4 2 4) + y2) < (mi4 2 2) then 49 else 76, [some (.ref 2), some (.ref 1000011), some (.int y2)], [], 0, 0, (ab_G mi4 ml5))) rfl ⟨trivial, trivial, trivial, trivial, trivial, trivial, trivial, trivial⟩ ?_
    refine ab_wi (fun c => ?_) (fun c => ?_)
    · have h := h.1 c
      obtain ⟨p0, h⟩ := h
      obtain ⟨r9, mi7, ml8, hc, h⟩ := h
      refine ab_wc 10 (c := 245) (as := [.ref 1000011, .int y2]) (pc := 65) (ll := [some (.ref 2), some (.ref 1000011), some (.int y2)]) (st := [.int (mi4 3 (((mi4 2 4) + y2)).toNatClampNeg)]) (c1 := 0) (s1 := 0) (g := (ab_G mi4 ml5)) rfl ⟨trivial, trivial, trivial, trivial, trivial, trivial, p0, trivial, trivial, trivial⟩ hc ?_
      refine ab_wk 1 (f' := (if (mi4 3 (((mi4 2 4) + y2)).toNatClampNeg) = r9 then 70 else 68, [some (.ref 2), some (.ref 1000011), some (.int y2)], [], 0, 0, (ab_G mi7 ml8))) rfl ⟨trivial, trivial⟩ ?_
      refine ab_wi (fun c => ?_) (fun c => ?_)
      · have h := h.1 c
        exact ab_wk 2 (f' := (28, [some (.ref 2), some (.ref 1000011), some (.int (y2 + 1))], [], 0, 0, (ab_G mi7 ml8))) rfl ⟨trivial, trivial, trivial⟩ h
      · have h := h.2 c
        exact ab_wr 2 rfl ⟨trivial, (Or.inl rfl)⟩ h
    · have h := h.2 c
      exact ab_wr 2 rfl ⟨trivial, (Or.inr rfl)⟩ h
  · have h := h.2 c
    exact ab_wr 2 rfl ⟨trivial, (Or.inr rfl)⟩ h
theorem vc_X7_takeWord_s11_0 {call : Nat → List Value → ab_S → Option Value → ab_S → Prop} {ro : ab_E} {Q : Option Value → ab_S → Prop}  (mi : Nat → Nat → Int32) (ml : Nat → Nat → Int64)
    (h : (((mi 5 1) = 0) → (∃ (r3 : Int32) (mi1 : Nat → Nat → Int32) (ml2 : Nat → Nat → Int64), call 86 [.ref 2, .ref 1000011] (ab_G mi ml) (some (.int r3)) (ab_G mi1 ml2) ∧ (((r3 = 0) → (∃ (mi4 : Nat → Nat → Int32) (ml5 : Nat → Nat → Int64), call 67 [.ref 5, .int 1] (ab_G mi1 ml2) none (ab_G mi4 ml5) ∧ (Q none (ab_G mi4 ml5)))) ∧ (¬ (r3 = 0) → (∃ (mi6 : Nat → Nat → Int32) (ml7 : Nat → Nat → Int64), call 85 [.ref 2] (ab_G mi1 ml2) none (ab_G mi6 ml7) ∧ (Q none (ab_G mi6 ml7))))))) ∧ (¬ ((mi 5 1) = 0) → (∃ (mi8 : Nat → Nat → Int32) (ml9 : Nat → Nat → Int64), call 67 [.ref 5, .int 1] (ab_G mi ml) none (ab_G mi8 ml9) ∧ (Q none (ab_G mi8 ml9))))) :
    ab_W call ro 0 0 (ab_lk2 pl_X7_takeWord) Q (0, [some (.ref 5), some (.ref 1000011)], [], 0, 0, ab_G mi ml) := by
  refine ab_wk 3 (f' := (if (mi 5 1) = 0 then 7 else 28, [some (.ref 5), some (.ref 1000011)], [], 0, 0, (ab_G mi ml))) rfl ⟨trivial, trivial, trivial, trivial⟩ ?_
  refine ab_wi (fun c => ?_) (fun c => ?_)
  · have h := h.1 c
    obtain ⟨r3, mi1, ml2, hc, h⟩ := h
    refine ab_wc 4 (c := 86) (as := [.ref 2, .ref 1000011]) (pc := 15) (ll := [some (.ref 5), some (.ref 1000011)]) (st := []) (c1 := 0) (s1 := 0) (g := (ab_G mi ml)) rfl ⟨trivial, trivial, trivial, trivial⟩ hc ?_
    refine ab_wk 1 (f' := (if r3 = 0 then 28 else 18, [some (.ref 5), some (.ref 1000011)], [], 0, 0, (ab_G mi1 ml2))) rfl ⟨trivial, trivial⟩ ?_
    refine ab_wi (fun c => ?_) (fun c => ?_)
    · have h := h.1 c
      obtain ⟨mi4, ml5, hc, h⟩ := h
      refine ab_wc 3 (c := 67) (as := [.ref 5, .int 1]) (pc := 33) (ll := [some (.ref 5), some (.ref 1000011)]) (st := []) (c1 := 0) (s1 := 0) (g := (ab_G mi1 ml2)) rfl ⟨trivial, trivial, trivial⟩ hc ?_
      exact ab_wr 1 rfl trivial h
    · have h := h.2 c
      obtain ⟨mi6, ml7, hc, h⟩ := h
      refine ab_wc 3 (c := 85) (as := [.ref 2]) (pc := 25) (ll := [some (.ref 5), some (.ref 1000011)]) (st := []) (c1 := 0) (s1 := 0) (g := (ab_G mi1 ml2)) rfl ⟨trivial, trivial, trivial⟩ hc ?_
      exact ab_wr 2 rfl ⟨trivial, trivial⟩ h
  · have h := h.2 c
    obtain ⟨mi8, ml9, hc, h⟩ := h
    refine ab_wc 3 (c := 67) (as := [.ref 5, .int 1]) (pc := 33) (ll := [some (.ref 5), some (.ref 1000011)]) (st := []) (c1 := 0) (s1 := 0) (g := (ab_G mi ml)) rfl ⟨trivial, trivial, trivial⟩ hc ?_
    exact ab_wr 1 rfl trivial h
theorem vc_X8_isWord_s12_0 {call : Nat → List Value → ab_S → Option Value → ab_S → Prop} {ro : ab_E} {Q : Option Value → ab_S → Prop}  (mi : Nat → Nat → Int32) (ml : Nat → Nat → Int64)
    (h : (((mi 2 3) = 2) → (∃ (r3 : Int32) (mi1 : Nat → Nat → Int32) (ml2 : Nat → Nat → Int64), call 244 [.ref 1000012] (ab_G mi ml) (some (.int r3)) (ab_G mi1 ml2) ∧ (((((mi 2 5) - (mi 2 4)) = r3) → (ab_W call ro 0 0 (ab_lk2 pl_X8_isWord) Q (28, [some (.ref 2), some (.ref 1000012), some (.int 0)], [], 0, 0, (ab_G mi1 ml2)))) ∧ (¬ (((mi 2 5) - (mi 2 4)) = r3) → (Q (some (.int 0)) (ab_G mi1 ml2)))))) ∧ (¬ ((mi 2 3) = 2) → (Q (some (.int 0)) (ab_G mi ml)))) :
    ab_W call ro 0 0 (ab_lk2 pl_X8_isWord) Q (0, [some (.ref 2), some (.ref 1000012), none], [], 0, 0, ab_G mi ml) := by
  refine ab_wk 4 (f' := (if (mi 2 3) = 2 then 8 else 24, [some (.ref 2), some (.ref 1000012), none], [], 0, 0, (ab_G mi ml))) rfl ⟨trivial, trivial, trivial, trivial, trivial⟩ ?_
  refine ab_wi (fun c => ?_) (fun c => ?_)
  · have h := h.1 c
    obtain ⟨r3, mi1, ml2, hc, h⟩ := h
    refine ab_wc 7 (c := 244) (as := [.ref 1000012]) (pc := 21) (ll := [some (.ref 2), some (.ref 1000012), none]) (st := [.int ((mi 2 5) - (mi 2 4))]) (c1 := 0) (s1 := 0) (g := (ab_G mi ml)) rfl ⟨trivial, trivial, trivial, trivial, trivial, trivial, trivial⟩ hc ?_
    refine ab_wk 1 (f' := (if ((mi 2 5) - (mi 2 4)) = r3 then 26 else 24, [some (.ref 2), some (.ref 1000012), none], [], 0, 0, (ab_G mi1 ml2))) rfl ⟨trivial, trivial⟩ ?_
    refine ab_wi (fun c => ?_) (fun c => ?_)
    · have h := h.1 c
      exact ab_wk 2 (f' := (28, [some (.ref 2), some (.ref 1000012), some (.int 0)], [], 0, 0, (ab_G mi1 ml2))) rfl ⟨trivial, trivial, trivial⟩ h
    · have h := h.2 c
      exact ab_wr 2 rfl ⟨trivial, (Or.inl rfl)⟩ h
  · have h := h.2 c
    exact ab_wr 2 rfl ⟨trivial, (Or.inl rfl)⟩ h
theorem vc_X8_isWord_s12_28 {call : Nat → List Value → ab_S → Option Value → ab_S → Prop} {ro : ab_E} {Q : Option Value → ab_S → Prop} (y2 : Int32) (mi : Nat → Nat → Int32) (ml : Nat → Nat → Int64)
    (h : ∃ (r6 : Int32) (mi4 : Nat → Nat → Int32) (ml5 : Nat → Nat → Int64), call 244 [.ref 1000012] (ab_G mi ml) (some (.int r6)) (ab_G mi4 ml5) ∧ (((y2 < r6) → (((((mi4 2 4) + y2) < (mi4 2 2)) → (vp_in ((mi4 2 4) + y2) 1000 ∧ (∃ (r9 : Int32) (mi7 : Nat → Nat → Int32) (ml8 : Nat → Nat → Int64), call 245 [.ref 1000012, .int y2] (ab_G mi4 ml5) (some (.int r9)) (ab_G mi7 ml8) ∧ ((((mi4 3 (((mi4 2 4) + y2)).toNatClampNeg) = r9) → (ab_W call ro 0 0 (ab_lk2 pl_X8_isWord) Q (28, [some (.ref 2), some (.ref 1000012), some (.int (y2 + 1))], [], 0, 0, (ab_G mi7 ml8)))) ∧ (¬ ((mi4 3 (((mi4 2 4) + y2)).toNatClampNeg) = r9) → (Q (some (.int 0)) (ab_G mi7 ml8))))))) ∧ (¬ (((mi4 2 4) + y2) < (mi4 2 2)) → (Q (some (.int 1)) (ab_G mi4 ml5))))) ∧ (¬ (y2 < r6) → (Q (some (.int 1)) (ab_G mi4 ml5))))) :
    ab_W call ro 0 0 (ab_lk2 pl_X8_isWord) Q (28, [some (.ref 2), some (.ref 1000012), some (.int y2)], [], 0, 0, ab_G mi ml) := by
  obtain ⟨r6, mi4, ml5, hc, h⟩ := h
  refine ab_wc 3 (c := 244) (as := [.ref 1000012]) (pc := 33) (ll := [some (.ref 2), some (.ref 1000012), some (.int y2)]) (st := [.int y2]) (c1 := 0) (s1 := 0) (g := (ab_G mi ml)) rfl ⟨trivial, trivial, trivial⟩ hc ?_
  refine ab_wk 1 (f' := (if y2 < r6 then 36 else 76, [some (.ref 2), some (.ref 1000012), some (.int y2)], [], 0, 0, (ab_G mi4 ml5))) rfl ⟨trivial, trivial⟩ ?_
  refine ab_wi (fun c => ?_) (fun c => ?_)
  · have h := h.1 c
    refine ab_wk 7 (f' := (if ((mi4 2 4) + y2) < (mi4 2 2) then 49 else 76, [some (.ref 2), some (.ref 1000012), some (.int y2)], [], 0, 0, (ab_G mi4 ml5))) rfl ⟨trivial, trivial, trivial, trivial, trivial, trivial, trivial, trivial⟩ ?_
    refine ab_wi (fun c => ?_) (fun c => ?_)
    · have h := h.1 c
      obtain ⟨p0, h⟩ := h
      obtain ⟨r9, mi7, ml8, hc, h⟩ := h
      refine ab_wc 10 (c := 245) (as := [.ref 1000012, .int y2]) (pc := 65) (ll := [some (.ref 2), some (.ref 1000012), some (.int y2)]) (st := [.int (mi4 3 (((mi4 2 4) + y2)).toNatClampNeg)]) (c1 := 0) (s1 := 0) (g := (ab_G mi4 ml5)) rfl ⟨trivial, trivial, trivial, trivial, trivial, trivial, p0, trivial, trivial, trivial⟩ hc ?_
      refine ab_wk 1 (f' := (if (mi4 3 (((mi4 2 4) + y2)).toNatClampNeg) = r9 then 70 else 68, [some (.ref 2), some (.ref 1000012), some (.int y2)], [], 0, 0, (ab_G mi7 ml8))) rfl ⟨trivial, trivial⟩ ?_
      refine ab_wi (fun c => ?_) (fun c => ?_)
      · have h := h.1 c
        exact ab_wk 2 (f' := (28, [some (.ref 2), some (.ref 1000012), some (.int (y2 + 1))], [], 0, 0, (ab_G mi7 ml8))) rfl ⟨trivial, trivial, trivial⟩ h
      · have h := h.2 c
        exact ab_wr 2 rfl ⟨trivial, (Or.inl rfl)⟩ h
    · have h := h.2 c
      exact ab_wr 2 rfl ⟨trivial, (Or.inr rfl)⟩ h
  · have h := h.2 c
    exact ab_wr 2 rfl ⟨trivial, (Or.inr rfl)⟩ h
theorem vc_X7_takeWord_s12_0 {call : Nat → List Value → ab_S → Option Value → ab_S → Prop} {ro : ab_E} {Q : Option Value → ab_S → Prop}  (mi : Nat → Nat → Int32) (ml : Nat → Nat → Int64)
    (h : (((mi 5 1) = 0) → (∃ (r3 : Int32) (mi1 : Nat → Nat → Int32) (ml2 : Nat → Nat → Int64), call 86 [.ref 2, .ref 1000012] (ab_G mi ml) (some (.int r3)) (ab_G mi1 ml2) ∧ (((r3 = 0) → (∃ (mi4 : Nat → Nat → Int32) (ml5 : Nat → Nat → Int64), call 67 [.ref 5, .int 1] (ab_G mi1 ml2) none (ab_G mi4 ml5) ∧ (Q none (ab_G mi4 ml5)))) ∧ (¬ (r3 = 0) → (∃ (mi6 : Nat → Nat → Int32) (ml7 : Nat → Nat → Int64), call 85 [.ref 2] (ab_G mi1 ml2) none (ab_G mi6 ml7) ∧ (Q none (ab_G mi6 ml7))))))) ∧ (¬ ((mi 5 1) = 0) → (∃ (mi8 : Nat → Nat → Int32) (ml9 : Nat → Nat → Int64), call 67 [.ref 5, .int 1] (ab_G mi ml) none (ab_G mi8 ml9) ∧ (Q none (ab_G mi8 ml9))))) :
    ab_W call ro 0 0 (ab_lk2 pl_X7_takeWord) Q (0, [some (.ref 5), some (.ref 1000012)], [], 0, 0, ab_G mi ml) := by
  refine ab_wk 3 (f' := (if (mi 5 1) = 0 then 7 else 28, [some (.ref 5), some (.ref 1000012)], [], 0, 0, (ab_G mi ml))) rfl ⟨trivial, trivial, trivial, trivial⟩ ?_
  refine ab_wi (fun c => ?_) (fun c => ?_)
  · have h := h.1 c
    obtain ⟨r3, mi1, ml2, hc, h⟩ := h
    refine ab_wc 4 (c := 86) (as := [.ref 2, .ref 1000012]) (pc := 15) (ll := [some (.ref 5), some (.ref 1000012)]) (st := []) (c1 := 0) (s1 := 0) (g := (ab_G mi ml)) rfl ⟨trivial, trivial, trivial, trivial⟩ hc ?_
    refine ab_wk 1 (f' := (if r3 = 0 then 28 else 18, [some (.ref 5), some (.ref 1000012)], [], 0, 0, (ab_G mi1 ml2))) rfl ⟨trivial, trivial⟩ ?_
    refine ab_wi (fun c => ?_) (fun c => ?_)
    · have h := h.1 c
      obtain ⟨mi4, ml5, hc, h⟩ := h
      refine ab_wc 3 (c := 67) (as := [.ref 5, .int 1]) (pc := 33) (ll := [some (.ref 5), some (.ref 1000012)]) (st := []) (c1 := 0) (s1 := 0) (g := (ab_G mi1 ml2)) rfl ⟨trivial, trivial, trivial⟩ hc ?_
      exact ab_wr 1 rfl trivial h
    · have h := h.2 c
      obtain ⟨mi6, ml7, hc, h⟩ := h
      refine ab_wc 3 (c := 85) (as := [.ref 2]) (pc := 25) (ll := [some (.ref 5), some (.ref 1000012)]) (st := []) (c1 := 0) (s1 := 0) (g := (ab_G mi1 ml2)) rfl ⟨trivial, trivial, trivial⟩ hc ?_
      exact ab_wr 2 rfl ⟨trivial, trivial⟩ h
  · have h := h.2 c
    obtain ⟨mi8, ml9, hc, h⟩ := h
    refine ab_wc 3 (c := 67) (as := [.ref 5, .int 1]) (pc := 33) (ll := [some (.ref 5), some (.ref 1000012)]) (st := []) (c1 := 0) (s1 := 0) (g := (ab_G mi ml)) rfl ⟨trivial, trivial, trivial⟩ hc ?_
    exact ab_wr 1 rfl trivial h
theorem vc_X8_isWord_s13_0 {call : Nat → List Value → ab_S → Option Value → ab_S → Prop} {ro : ab_E} {Q : Option Value → ab_S → Prop}  (mi : Nat → Nat → Int32) (ml : Nat → Nat → Int64)
    (h : (((mi 2 3) = 2) → (∃ (r3 : Int32) (mi1 : Nat → Nat → Int32) (ml2 : Nat → Nat → Int64), call 244 [.ref 1000013] (ab_G mi ml) (some (.int r3)) (ab_G mi1 ml2) ∧ (((((mi 2 5) - (mi 2 4)) = r3) → (ab_W call ro 0 0 (ab_lk2 pl_X8_isWord) Q (28, [some (.ref 2), some (.ref 1000013), some (.int 0)], [], 0, 0, (ab_G mi1 ml2)))) ∧ (¬ (((mi 2 5) - (mi 2 4)) = r3) → (Q (some (.int 0)) (ab_G mi1 ml2)))))) ∧ (¬ ((mi 2 3) = 2) → (Q (some (.int 0)) (ab_G mi ml)))) :
    ab_W call ro 0 0 (ab_lk2 pl_X8_isWord) Q (0, [some (.ref 2), some (.ref 1000013), none], [], 0, 0, ab_G mi ml) := by
  refine ab_wk 4 (f' := (if (mi 2 3) = 2 then 8 else 24, [some (.ref 2), some (.ref 1000013), none], [], 0, 0, (ab_G mi ml))) rfl ⟨trivial, trivial, trivial, trivial, trivial⟩ ?_
  refine ab_wi (fun c => ?_) (fun c => ?_)
  · have h := h.1 c
    obtain ⟨r3, mi1, ml2, hc, h⟩ := h
    refine ab_wc 7 (c := 244) (as := [.ref 1000013]) (pc := 21) (ll := [some (.ref 2), some (.ref 1000013), none]) (st := [.int ((mi 2 5) - (mi 2 4))]) (c1 := 0) (s1 := 0) (g := (ab_G mi ml)) rfl ⟨trivial, trivial, trivial, trivial, trivial, trivial, trivial⟩ hc ?_
    refine ab_wk 1 (f' := (if ((mi 2 5) - (mi 2 4)) = r3 then 26 else 24, [some (.ref 2), some (.ref 1000013), none], [], 0, 0, (ab_G mi1 ml2))) rfl ⟨trivial, trivial⟩ ?_
    refine ab_wi (fun c => ?_) (fun c => ?_)
    · have h := h.1 c
      exact ab_wk 2 (f' := (28, [some (.ref 2), some (.ref 1000013), some (.int 0)], [], 0, 0, (ab_G mi1 ml2))) rfl ⟨trivial, trivial, trivial⟩ h
    · have h := h.2 c
      exact ab_wr 2 rfl ⟨trivial, (Or.inl rfl)⟩ h
  · have h := h.2 c
    exact ab_wr 2 rfl ⟨trivial, (Or.inl rfl)⟩ h
theorem vc_X8_isWord_s13_28 {call : Nat → List Value → ab_S → Option Value → ab_S → Prop} {ro : ab_E} {Q : Option Value → ab_S → Prop} (y2 : Int32) (mi : Nat → Nat → Int32) (ml : Nat → Nat → Int64)
    (h : ∃ (r6 : Int32) (mi4 : Nat → Nat → Int32) (ml5 : Nat → Nat → Int64), call 244 [.ref 1000013] (ab_G mi ml) (some (.int r6)) (ab_G mi4 ml5) ∧ (((y2 < r6) → (((((mi4 2 4) + y2) < (mi4 2 2)) → (vp_in ((mi4 2 4) + y2) 1000 ∧ (∃ (r9 : Int32) (mi7 : Nat → Nat → Int32) (ml8 : Nat → Nat → Int64), call 245 [.ref 1000013, .int y2] (ab_G mi4 ml5) (some (.int r9)) (ab_G mi7 ml8) ∧ ((((mi4 3 (((mi4 2 4) + y2)).toNatClampNeg) = r9) → (ab_W call ro 0 0 (ab_lk2 pl_X8_isWord) Q (28, [some (.ref 2), some (.ref 1000013), some (.int (y2 + 1))], [], 0, 0, (ab_G mi7 ml8)))) ∧ (¬ ((mi4 3 (((mi4 2 4) + y2)).toNatClampNeg) = r9) → (Q (some (.int 0)) (ab_G mi7 ml8))))))) ∧ (¬ (((mi4 2 4) + y2) < (mi4 2 2)) → (Q (some (.int 1)) (ab_G mi4 ml5))))) ∧ (¬ (y2 < r6) → (Q (some (.int 1)) (ab_G mi4 ml5))))) :
    ab_W call ro 0 0 (ab_lk2 pl_X8_isWord) Q (28, [some (.ref 2), some (.ref 1000013), some (.int y2)], [], 0, 0, ab_G mi ml) := by
  obtain ⟨r6, mi4, ml5, hc, h⟩ := h
  refine ab_wc 3 (c := 244) (as := [.ref 1000013]) (pc := 33) (ll := [some (.ref 2), some (.ref 1000013), some (.int y2)]) (st := [.int y2]) (c1 := 0) (s1 := 0) (g := (ab_G mi ml)) rfl ⟨trivial, trivial, trivial⟩ hc ?_
  refine ab_wk 1 (f' := (if y2 < r6 then 36 else 76, [some (.ref 2), some (.ref 1000013), some (.int y2)], [], 0, 0, (ab_G mi4 ml5))) rfl ⟨trivial, trivial⟩ ?_
  refine ab_wi (fun c => ?_) (fun c => ?_)
  · have h := h.1 c
    refine ab_wk 7 (f' := (if ((mi4 2 4) + y2) < (mi4 2 2) then 49 else 76, [some (.ref 2), some (.ref 1000013), some (.int y2)], [], 0, 0, (ab_G mi4 ml5))) rfl ⟨trivial, trivial, trivial, trivial, trivial, trivial, trivial, trivial⟩ ?_
    refine ab_wi (fun c => ?_) (fun c => ?_)
    · have h := h.1 c
      obtain ⟨p0, h⟩ := h
      obtain ⟨r9, mi7, ml8, hc, h⟩ := h
      refine ab_wc 10 (c := 245) (as := [.ref 1000013, .int y2]) (pc := 65) (ll := [some (.ref 2), some (.ref 1000013), some (.int y2)]) (st := [.int (mi4 3 (((mi4 2 4) + y2)).toNatClampNeg)]) (c1 := 0) (s1 := 0) (g := (ab_G mi4 ml5)) rfl ⟨trivial, trivial, trivial, trivial, trivial, trivial, p0, trivial, trivial, trivial⟩ hc ?_
      refine ab_wk 1 (f' := (if (mi4 3 (((mi4 2 4) + y2)).toNatClampNeg) = r9 then 70 else 68, [some (.ref 2), some (.ref 1000013), some (.int y2)], [], 0, 0, (ab_G mi7 ml8))) rfl ⟨trivial, trivial⟩ ?_
      refine ab_wi (fun c => ?_) (fun c => ?_)
      · have h := h.1 c
        exact ab_wk 2 (f' := (28, [some (.ref 2), some (.ref 1000013), some (.int (y2 + 1))], [], 0, 0, (ab_G mi7 ml8))) rfl ⟨trivial, trivial, trivial⟩ h
      · have h := h.2 c
        exact ab_wr 2 rfl ⟨trivial, (Or.inl rfl)⟩ h
    · have h := h.2 c
      exact ab_wr 2 rfl ⟨trivial, (Or.inr rfl)⟩ h
  · have h := h.2 c
    exact ab_wr 2 rfl ⟨trivial, (Or.inr rfl)⟩ h
theorem vc_X7_takeWord_s13_0 {call : Nat → List Value → ab_S → Option Value → ab_S → Prop} {ro : ab_E} {Q : Option Value → ab_S → Prop}  (mi : Nat → Nat → Int32) (ml : Nat → Nat → Int64)
    (h : (((mi 5 1) = 0) → (∃ (r3 : Int32) (mi1 : Nat → Nat → Int32) (ml2 : Nat → Nat → Int64), call 86 [.ref 2, .ref 1000013] (ab_G mi ml) (some (.int r3)) (ab_G mi1 ml2) ∧ (((r3 = 0) → (∃ (mi4 : Nat → Nat → Int32) (ml5 : Nat → Nat → Int64), call 67 [.ref 5, .int 1] (ab_G mi1 ml2) none (ab_G mi4 ml5) ∧ (Q none (ab_G mi4 ml5)))) ∧ (¬ (r3 = 0) → (∃ (mi6 : Nat → Nat → Int32) (ml7 : Nat → Nat → Int64), call 85 [.ref 2] (ab_G mi1 ml2) none (ab_G mi6 ml7) ∧ (Q none (ab_G mi6 ml7))))))) ∧ (¬ ((mi 5 1) = 0) → (∃ (mi8 : Nat → Nat → Int32) (ml9 : Nat → Nat → Int64), call 67 [.ref 5, .int 1] (ab_G mi ml) none (ab_G mi8 ml9) ∧ (Q none (ab_G mi8 ml9))))) :
    ab_W call ro 0 0 (ab_lk2 pl_X7_takeWord) Q (0, [some (.ref 5), some (.ref 1000013)], [], 0, 0, ab_G mi ml) := by
  refine ab_wk 3 (f' := (if (mi 5 1) = 0 then 7 else 28, [some (.ref 5), some (.ref 1000013)], [], 0, 0, (ab_G mi ml))) rfl ⟨trivial, trivial, trivial, trivial⟩ ?_
  refine ab_wi (fun c => ?_) (fun c => ?_)
  · have h := h.1 c
    obtain ⟨r3, mi1, ml2, hc, h⟩ := h
    refine ab_wc 4 (c := 86) (as := [.ref 2, .ref 1000013]) (pc := 15) (ll := [some (.ref 5), some (.ref 1000013)]) (st := []) (c1 := 0) (s1 := 0) (g := (ab_G mi ml)) rfl ⟨trivial, trivial, trivial, trivial⟩ hc ?_
    refine ab_wk 1 (f' := (if r3 = 0 then 28 else 18, [some (.ref 5), some (.ref 1000013)], [], 0, 0, (ab_G mi1 ml2))) rfl ⟨trivial, trivial⟩ ?_
    refine ab_wi (fun c => ?_) (fun c => ?_)
    · have h := h.1 c
      obtain ⟨mi4, ml5, hc, h⟩ := h
      refine ab_wc 3 (c := 67) (as := [.ref 5, .int 1]) (pc := 33) (ll := [some (.ref 5), some (.ref 1000013)]) (st := []) (c1 := 0) (s1 := 0) (g := (ab_G mi1 ml2)) rfl ⟨trivial, trivial, trivial⟩ hc ?_
      exact ab_wr 1 rfl trivial h
    · have h := h.2 c
      obtain ⟨mi6, ml7, hc, h⟩ := h
      refine ab_wc 3 (c := 85) (as := [.ref 2]) (pc := 25) (ll := [some (.ref 5), some (.ref 1000013)]) (st := []) (c1 := 0) (s1 := 0) (g := (ab_G mi1 ml2)) rfl ⟨trivial, trivial, trivial⟩ hc ?_
      exact ab_wr 2 rfl ⟨trivial, trivial⟩ h
  · have h := h.2 c
    obtain ⟨mi8, ml9, hc, h⟩ := h
    refine ab_wc 3 (c := 67) (as := [.ref 5, .int 1]) (pc := 33) (ll := [some (.ref 5), some (.ref 1000013)]) (st := []) (c1 := 0) (s1 := 0) (g := (ab_G mi ml)) rfl ⟨trivial, trivial, trivial⟩ hc ?_
    exact ab_wr 1 rfl trivial h
theorem vc_X8_isWord_s14_0 {call : Nat → List Value → ab_S → Option Value → ab_S → Prop} {ro : ab_E} {Q : Option Value → ab_S → Prop}  (mi : Nat → Nat → Int32) (ml : Nat → Nat → Int64)
    (h : (((mi 2 3) = 2) → (∃ (r3 : Int32) (mi1 : Nat → Nat → Int32) (ml2 : Nat → Nat → Int64), call 244 [.ref 1000014] (ab_G mi ml) (some (.int r3)) (ab_G mi1 ml2) ∧ (((((mi 2 5) - (mi 2 4)) = r3) → (ab_W call ro 0 0 (ab_lk2 pl_X8_isWord) Q (28, [some (.ref 2), some (.ref 1000014), some (.int 0)], [], 0, 0, (ab_G mi1 ml2)))) ∧ (¬ (((mi 2 5) - (mi 2 4)) = r3) → (Q (some (.int 0)) (ab_G mi1 ml2)))))) ∧ (¬ ((mi 2 3) = 2) → (Q (some (.int 0)) (ab_G mi ml)))) :
    ab_W call ro 0 0 (ab_lk2 pl_X8_isWord) Q (0, [some (.ref 2), some (.ref 1000014), none], [], 0, 0, ab_G mi ml) := by
  refine ab_wk 4 (f' := (if (mi 2 3) = 2 then 8 else 24, [some (.ref 2), some (.ref 1000014), none], [], 0, 0, (ab_G mi ml))) rfl ⟨trivial, trivial, trivial, trivial, trivial⟩ ?_
  refine ab_wi (fun c => ?_) (fun c => ?_)
  · have h := h.1 c
    obtain ⟨r3, mi1, ml2, hc, h⟩ := h
    refine ab_wc 7 (c := 244) (as := [.ref 1000014]) (pc := 21) (ll := [some (.ref 2), some (.ref 1000014), none]) (st := [.int ((mi 2 5) - (mi 2 4))]) (c1 := 0) (s1 := 0) (g := (ab_G mi ml)) rfl ⟨trivial, trivial, trivial, trivial, trivial, trivial, trivial⟩ hc ?_
    refine ab_wk 1 (f' := (if ((mi 2 5) - (mi 2 4)) = r3 then 26 else 24, [some (.ref 2), some (.ref 1000014), none], [], 0, 0, (ab_G mi1 ml2))) rfl ⟨trivial, trivial⟩ ?_
    refine ab_wi (fun c => ?_) (fun c => ?_)
    · have h := h.1 c
      exact ab_wk 2 (f' := (28, [some (.ref 2), some (.ref 1000014), some (.int 0)], [], 0, 0, (ab_G mi1 ml2))) rfl ⟨trivial, trivial, trivial⟩ h
    · have h := h.2 c
      exact ab_wr 2 rfl ⟨trivial, (Or.inl rfl)⟩ h
  · have h := h.2 c
    exact ab_wr 2 rfl ⟨trivial, (Or.inl rfl)⟩ h
theorem vc_X8_isWord_s14_28 {call : Nat → List Value → ab_S → Option Value → ab_S → Prop} {ro : ab_E} {Q : Option Value → ab_S → Prop} (y2 : Int32) (mi : Nat → Nat → Int32) (ml : Nat → Nat → Int64)
    (h : ∃ (r6 : Int32) (mi4 : Nat → Nat → Int32) (ml5 : Nat → Nat → Int64), call 244 [.ref 1000014] (ab_G mi ml) (some (.int r6)) (ab_G mi4 ml5) ∧ (((y2 < r6) → (((((mi4 2 4) + y2) < (mi4 2 2)) → (vp_in ((mi4 2 4) + y2) 1000 ∧ (∃ (r9 : Int32) (mi7 : Nat → Nat → Int32) (ml8 : Nat → Nat → Int64), call 245 [.ref 1000014, .int y2] (ab_G mi4 ml5) (some (.int r9)) (ab_G mi7 ml8) ∧ ((((mi4 3 (((mi4 2 4) + y2)).toNatClampNeg) = r9) → (ab_W call ro 0 0 (ab_lk2 pl_X8_isWord) Q (28, [some (.ref 2), some (.ref 1000014), some (.int (y2 + 1))], [], 0, 0, (ab_G mi7 ml8)))) ∧ (¬ ((mi4 3 (((mi4 2 4) + y2)).toNatClampNeg) = r9) → (Q (some (.int 0)) (ab_G mi7 ml8))))))) ∧ (¬ (((mi4 2 4) + y2) < (mi4 2 2)) → (Q (some (.int 1)) (ab_G mi4 ml5))))) ∧ (¬ (y2 < r6) → (Q (some (.int 1)) (ab_G mi4 ml5))))) :
    ab_W call ro 0 0 (ab_lk2 pl_X8_isWord) Q (28, [some (.ref 2), some (.ref 1000014), some (.int y2)], [], 0, 0, ab_G mi ml) := by
  obtain ⟨r6, mi4, ml5, hc, h⟩ := h
  refine ab_wc 3 (c := 244) (as := [.ref 1000014]) (pc := 33) (ll := [some (.ref 2), some (.ref 1000014), some (.int y2)]) (st := [.int y2]) (c1 := 0) (s1 := 0) (g := (ab_G mi ml)) rfl ⟨trivial, trivial, trivial⟩ hc ?_
  refine ab_wk 1 (f' := (if y2 < r6 then 36 else 76, [some (.ref 2), some (.ref 1000014), some (.int y2)], [], 0, 0, (ab_G mi4 ml5))) rfl ⟨trivial, trivial⟩ ?_
  refine ab_wi (fun c => ?_) (fun c => ?_)
  · have h := h.1 c
    refine ab_wk 7 (f' := (if ((mi4 2 4) + y2) < (mi4 2 2) then 49 else 76, [some (.ref 2), some (.ref 1000014), some (.int y2)], [], 0, 0, (ab_G mi4 ml5))) rfl ⟨trivial, trivial, trivial, trivial, trivial, trivial, trivial, trivial⟩ ?_
    refine ab_wi (fun c => ?_) (fun c => ?_)
    · have h := h.1 c
      obtain ⟨p0, h⟩ := h
      obtain ⟨r9, mi7, ml8, hc, h⟩ := h
      refine ab_wc 10 (c := 245) (as := [.ref 1000014, .int y2]) (pc := 65) (ll := [some (.ref 2), some (.ref 1000014), some (.int y2)]) (st := [.int (mi4 3 (((mi4 2 4) + y2)).toNatClampNeg)]) (c1 := 0) (s1 := 0) (g := (ab_G mi4 ml5)) rfl ⟨trivial, trivial, trivial, trivial, trivial, trivial, p0, trivial, trivial, trivial⟩ hc ?_
      refine ab_wk 1 (f' := (if (mi4 3 (((mi4 2 4) + y2)).toNatClampNeg) = r9 then 70 else 68, [some (.ref 2), some (.ref 1000014), some (.int y2)], [], 0, 0, (ab_G mi7 ml8))) rfl ⟨trivial, trivial⟩ ?_
      refine ab_wi (fun c => ?_) (fun c => ?_)
      · have h := h.1 c
        exact ab_wk 2 (f' := (28, [some (.ref 2), some (.ref 1000014), some (.int (y2 + 1))], [], 0, 0, (ab_G mi7 ml8))) rfl ⟨trivial, trivial, trivial⟩ h
      · have h := h.2 c
        exact ab_wr 2 rfl ⟨trivial, (Or.inl rfl)⟩ h
    · have h := h.2 c
      exact ab_wr 2 rfl ⟨trivial, (Or.inr rfl)⟩ h
  · have h := h.2 c
    exact ab_wr 2 rfl ⟨trivial, (Or.inr rfl)⟩ h
theorem vc_X7_takeWord_s14_0 {call : Nat → List Value → ab_S → Option Value → ab_S → Prop} {ro : ab_E} {Q : Option Value → ab_S → Prop}  (mi : Nat → Nat → Int32) (ml : Nat → Nat → Int64)
    (h : (((mi 5 1) = 0) → (∃ (r3 : Int32) (mi1 : Nat → Nat → Int32) (ml2 : Nat → Nat → Int64), call 86 [.ref 2, .ref 1000014] (ab_G mi ml) (some (.int r3)) (ab_G mi1 ml2) ∧ (((r3 = 0) → (∃ (mi4 : Nat → Nat → Int32) (ml5 : Nat → Nat → Int64), call 67 [.ref 5, .int 1] (ab_G mi1 ml2) none (ab_G mi4 ml5) ∧ (Q none (ab_G mi4 ml5)))) ∧ (¬ (r3 = 0) → (∃ (mi6 : Nat → Nat → Int32) (ml7 : Nat → Nat → Int64), call 85 [.ref 2] (ab_G mi1 ml2) none (ab_G mi6 ml7) ∧ (Q none (ab_G mi6 ml7))))))) ∧ (¬ ((mi 5 1) = 0) → (∃ (mi8 : Nat → Nat → Int32) (ml9 : Nat → Nat → Int64), call 67 [.ref 5, .int 1] (ab_G mi ml) none (ab_G mi8 ml9) ∧ (Q none (ab_G mi8 ml9))))) :
    ab_W call ro 0 0 (ab_lk2 pl_X7_takeWord) Q (0, [some (.ref 5), some (.ref 1000014)], [], 0, 0, ab_G mi ml) := by
  refine ab_wk 3 (f' := (if (mi 5 1) = 0 then 7 else 28, [some (.ref 5), some (.ref 1000014)], [], 0, 0, (ab_G mi ml))) rfl ⟨trivial, trivial, trivial, trivial⟩ ?_
  refine ab_wi (fun c => ?_) (fun c => ?_)
  · have h := h.1 c
    obtain ⟨r3, mi1, ml2, hc, h⟩ := h
    refine ab_wc 4 (c := 86) (as := [.ref 2, .ref 1000014]) (pc := 15) (ll := [some (.ref 5), some (.ref 1000014)]) (st := []) (c1 := 0) (s1 := 0) (g := (ab_G mi ml)) rfl ⟨trivial, trivial, trivial, trivial⟩ hc ?_
    refine ab_wk 1 (f' := (if r3 = 0 then 28 else 18, [some (.ref 5), some (.ref 1000014)], [], 0, 0, (ab_G mi1 ml2))) rfl ⟨trivial, trivial⟩ ?_
    refine ab_wi (fun c => ?_) (fun c => ?_)
    · have h := h.1 c
      obtain ⟨mi4, ml5, hc, h⟩ := h
      refine ab_wc 3 (c := 67) (as := [.ref 5, .int 1]) (pc := 33) (ll := [some (.ref 5), some (.ref 1000014)]) (st := []) (c1 := 0) (s1 := 0) (g := (ab_G mi1 ml2)) rfl ⟨trivial, trivial, trivial⟩ hc ?_
      exact ab_wr 1 rfl trivial h
    · have h := h.2 c
      obtain ⟨mi6, ml7, hc, h⟩ := h
      refine ab_wc 3 (c := 85) (as := [.ref 2]) (pc := 25) (ll := [some (.ref 5), some (.ref 1000014)]) (st := []) (c1 := 0) (s1 := 0) (g := (ab_G mi1 ml2)) rfl ⟨trivial, trivial, trivial⟩ hc ?_
      exact ab_wr 2 rfl ⟨trivial, trivial⟩ h
  · have h := h.2 c
    obtain ⟨mi8, ml9, hc, h⟩ := h
    refine ab_wc 3 (c := 67) (as := [.ref 5, .int 1]) (pc := 33) (ll := [some (.ref 5), some (.ref 1000014)]) (st := []) (c1 := 0) (s1 := 0) (g := (ab_G mi ml)) rfl ⟨trivial, trivial, trivial⟩ hc ?_
    exact ab_wr 1 rfl trivial h
