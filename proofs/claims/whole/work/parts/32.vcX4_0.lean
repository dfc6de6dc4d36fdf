theorem vc_X4_renew_0 {call : Nat → List Value → ab_S → Option Value → ab_S → Prop} {ro : ab_E} {Q : Option Value → ab_S → Prop} (x1 : Int32) (mi : Nat → Nat → Int32) (ml : Nat → Nat → Int64)
    (h : ab_W call ro 0 0 (ab_lk2 pl_X4_renew) Q (7, [some (.ref 25), some (.int x1), some (.int 0)], [], 0, 0, (ab_G (ab_ui mi 25 4 0) ml))) :
    ab_W call ro 0 0 (ab_lk2 pl_X4_renew) Q (0, [some (.ref 25), some (.int x1), none], [], 0, 0, ab_G mi ml) := by
  exact ab_wk 5 (f' := (7, [some (.ref 25), some (.int x1), some (.int 0)], [], 0, 0, (ab_G (ab_ui mi 25 4 0) ml))) rfl ⟨trivial, trivial, trivial, trivial, trivial, trivial⟩ h
theorem vc_X4_renew_7 {call : Nat → List Value → ab_S → Option Value → ab_S → Prop} {ro : ab_E} {Q : Option Value → ab_S → Prop} (y1 : Int32) (y2 : Int32) (mi : Nat → Nat → Int32) (ml : Nat → Nat → Int64)
    (h : ((y2 < (mi 12 5)) → (∃ (r3 : Int32) (mi1 : Nat → Nat → Int32) (ml2 : Nat → Nat → Int64), call 97 [.ref 12, .int y2, .int y1] (ab_G mi ml) (some (.int r3)) (ab_G mi1 ml2) ∧ (((r3 = 0) → (vp_in y2 30 ∧ (ab_W call ro 0 0 (ab_lk2 pl_X4_renew) Q (7, [some (.ref 25), some (.int y1), some (.int (y2 + 1))], [], 0, 0, (ab_G (ab_ui mi1 26 (y2).toNatClampNeg (-1)) ml2))))) ∧ (¬ (r3 = 0) → (∃ (r6 : Int32) (mi4 : Nat → Nat → Int32) (ml5 : Nat → Nat → Int64), call 26 [.ref 25, .int y2] (ab_G mi1 ml2) (some (.int r6)) (ab_G mi4 ml5) ∧ (vp_in y2 30 ∧ (ab_W call ro 0 0 (ab_lk2 pl_X4_renew) Q (7, [some (.ref 25), some (.int y1), some (.int (y2 + 1))], [], 0, 0, (ab_G (ab_ui mi4 26 (y2).toNatClampNeg r6) ml5))))))))) ∧ (¬ (y2 < (mi 12 5)) → (ab_W call ro 0 0 (ab_lk2 pl_X4_renew) Q (53, [some (.ref 25), some (.int y1), some (.int 0)], [], 0, 0, (ab_G mi ml))))) :
    ab_W call ro 0 0 (ab_lk2 pl_X4_renew) Q (7, [some (.ref 25), some (.int y1), some (.int y2)], [], 0, 0, ab_G mi ml) := by
  refine ab_wk 5 (f' := (if y2 < (mi 12 5) then 18 else 51, [some (.ref 25), some (.int y1), some (.int y2)], [], 0, 0, (ab_G mi ml))) rfl ⟨trivial, trivial, trivial, trivial, trivial, trivial⟩ ?_
  refine ab_wi (fun c => ?_) (fun c => ?_)
  · have h := h.1 c
    obtain ⟨r3, mi1, ml2, hc, h⟩ := h
    refine ab_wc 8 (c := 97) (as := [.ref 12, .int y2, .int y1]) (pc := 32) (ll := [some (.ref 25), some (.int y1), some (.int y2)]) (st := [.int y2, .ref 26]) (c1 := 0) (s1 := 0) (g := (ab_G mi ml)) rfl ⟨trivial, trivial, trivial, trivial, trivial, trivial, trivial, trivial⟩ hc ?_
    refine ab_wk 1 (f' := (if r3 = 0 then 43 else 35, [some (.ref 25), some (.int y1), some (.int y2)], [.int y2, .ref 26], 0, 0, (ab_G mi1 ml2))) rfl ⟨trivial, trivial⟩ ?_
    refine ab_wi (fun c => ?_) (fun c => ?_)
    · have h := h.1 c
      obtain ⟨p0, h⟩ := h
      exact ab_wk 4 (f' := (7, [some (.ref 25), some (.int y1), some (.int (y2 + 1))], [], 0, 0, (ab_G (ab_ui mi1 26 (y2).toNatClampNeg (-1)) ml2))) rfl ⟨trivial, p0, trivial, trivial, trivial⟩ h
    · have h := h.2 c
      obtain ⟨r6, mi4, ml5, hc, h⟩ := h
      refine ab_wc 3 (c := 26) (as := [.ref 25, .int y2]) (pc := 40) (ll := [some (.ref 25), some (.int y1), some (.int y2)]) (st := [.int y2, .ref 26]) (c1 := 0) (s1 := 0) (g := (ab_G mi1 ml2)) rfl ⟨trivial, trivial, trivial⟩ hc ?_
      obtain ⟨p0, h⟩ := h
      exact ab_wk 4 (f' := (7, [some (.ref 25), some (.int y1), some (.int (y2 + 1))], [], 0, 0, (ab_G (ab_ui mi4 26 (y2).toNatClampNeg r6) ml5))) rfl ⟨trivial, p0, trivial, trivial, trivial⟩ h
  · have h := h.2 c
    exact ab_wk 2 (f' := (53, [some (.ref 25), some (.int y1), some (.int 0)], [], 0, 0, (ab_G mi ml))) rfl ⟨trivial, trivial, trivial⟩ h
theorem vc_X4_renew_53 {call : Nat → List Value → ab_S → Option Value → ab_S → Prop} {ro : ab_E} {Q : Option Value → ab_S → Prop} (y1 : Int32) (y2 : Int32) (mi : Nat → Nat → Int32) (ml : Nat → Nat → Int64)
    (h : ((y2 < (mi 25 4)) → (∃ (r9 : Int32) (mi7 : Nat → Nat → Int32) (ml8 : Nat → Nat → Int64), call 29 [.ref 25, .int y2] (ab_G mi ml) (some (.int r9)) (ab_G mi7 ml8) ∧ (vp_in y2 30 ∧ (ab_W call ro 0 0 (ab_lk2 pl_X4_renew) Q (53, [some (.ref 25), some (.int y1), some (.int (y2 + 1))], [], 0, 0, (ab_G (ab_ui mi7 30 (y2).toNatClampNeg r9) ml8)))))) ∧ (¬ (y2 < (mi 25 4)) → (ab_W call ro 0 0 (ab_lk2 pl_X4_renew) Q (80, [some (.ref 25), some (.int y1), some (.int 0)], [], 0, 0, (ab_G mi ml))))) :
    ab_W call ro 0 0 (ab_lk2 pl_X4_renew) Q (53, [some (.ref 25), some (.int y1), some (.int y2)], [], 0, 0, ab_G mi ml) := by
  refine ab_wk 4 (f' := (if y2 < (mi 25 4) then 61 else 78, [some (.ref 25), some (.int y1), some (.int y2)], [], 0, 0, (ab_G mi ml))) rfl ⟨trivial, trivial, trivial, trivial, trivial⟩ ?_
  refine ab_wi (fun c => ?_) (fun c => ?_)
  · have h := h.1 c
    obtain ⟨r9, mi7, ml8, hc, h⟩ := h
    refine ab_wc 6 (c := 29) (as := [.ref 25, .int y2]) (pc := 71) (ll := [some (.ref 25), some (.int y1), some (.int y2)]) (st := [.int y2, .ref 30]) (c1 := 0) (s1 := 0) (g := (ab_G mi ml)) rfl ⟨trivial, trivial, trivial, trivial, trivial, trivial⟩ hc ?_
    obtain ⟨p0, h⟩ := h
    exact ab_wk 3 (f' := (53, [some (.ref 25), some (.int y1), some (.int (y2 + 1))], [], 0, 0, (ab_G (ab_ui mi7 30 (y2).toNatClampNeg r9) ml8))) rfl ⟨p0, trivial, trivial, trivial⟩ h
  · have h := h.2 c
    exact ab_wk 2 (f' := (80, [some (.ref 25), some (.int y1), some (.int 0)], [], 0, 0, (ab_G mi ml))) rfl ⟨trivial, trivial, trivial⟩ h
theorem vc_X4_renew_80 {call : Nat → List Value → ab_S → Option Value → ab_S → Prop} {ro : ab_E} {Q : Option Value → ab_S → Prop} (y1 : Int32) (y2 : Int32) (mi : Nat → Nat → Int32) (ml : Nat → Nat → Int64)
    (h : ((y2 < 64) → (vp_in y2 64 ∧ (vp_in y2 64 ∧ (ab_W call ro 0 0 (ab_lk2 pl_X4_renew) Q (80, [some (.ref 25), some (.int y1), some (.int (y2 + 1))], [], 0, 0, (ab_G mi (ab_ul (ab_ul ml 31 (y2).toNatClampNeg 0) 32 (y2).toNatClampNeg 0))))))) ∧ (¬ (y2 < 64) → (Q none (ab_G mi ml)))) :
    ab_W call ro 0 0 (ab_lk2 pl_X4_renew) Q (80, [some (.ref 25), some (.int y1), some (.int y2)], [], 0, 0, ab_G mi ml) := by
  refine ab_wk 3 (f' := (if y2 < 64 then 86 else 106, [some (.ref 25), some (.int y1), some (.int y2)], [], 0, 0, (ab_G mi ml))) rfl ⟨trivial, trivial, trivial, trivial⟩ ?_
  refine ab_wi (fun c => ?_) (fun c => ?_)
  · have h := h.1 c
    obtain ⟨p0, p1, h⟩ := h
    exact ab_wk 12 (f' := (80, [some (.ref 25), some (.int y1), some (.int (y2 + 1))], [], 0, 0, (ab_G mi (ab_ul (ab_ul ml 31 (y2).toNatClampNeg 0) 32 (y2).toNatClampNeg 0)))) rfl ⟨trivial, trivial, trivial, trivial, p0, trivial, trivial, trivial, trivial, p1, trivial, trivial, trivial⟩ h
  · have h := h.2 c
    exact ab_wr 1 rfl trivial h
theorem vc_X4_join_0 {call : Nat → List Value → ab_S → Option Value → ab_S → Prop} {ro : ab_E} {Q : Option Value → ab_S → Prop} (x1 : Int32) (mi : Nat → Nat → Int32) (ml : Nat → Nat → Int64)
    (h : ab_W call ro 0 0 (ab_lk2 pl_X4_join) Q (2, [some (.ref 25), some (.int x1), some (.int 0)], [], 0, 0, (ab_G mi ml))) :
    ab_W call ro 0 0 (ab_lk2 pl_X4_join) Q (0, [some (.ref 25), some (.int x1), none], [], 0, 0, ab_G mi ml) := by
  exact ab_wk 2 (f' := (2, [some (.ref 25), some (.int x1), some (.int 0)], [], 0, 0, (ab_G mi ml))) rfl ⟨trivial, trivial, trivial⟩ h
theorem vc_X4_join_2 {call : Nat → List Value → ab_S → Option Value → ab_S → Prop} {ro : ab_E} {Q : Option Value → ab_S → Prop} (y1 : Int32) (y2 : Int32) (mi : Nat → Nat → Int32) (ml : Nat → Nat → Int64)
    (h : ((y2 < (mi 25 4)) → (vp_in y2 30 ∧ (∃ (r3 : Int32) (mi1 : Nat → Nat → Int32) (ml2 : Nat → Nat → Int64), call 27 [.ref 25, .int (mi 27 (y2).toNatClampNeg), .int y1] (ab_G mi ml) (some (.int r3)) (ab_G mi1 ml2) ∧ (((r3 = 0) → (ab_W call ro 0 0 (ab_lk2 pl_X4_join) Q (2, [some (.ref 25), some (.int y1), some (.int (y2 + 1))], [], 0, 0, (ab_G mi1 ml2)))) ∧ (¬ (r3 = 0) → (Q (some (.int y2)) (ab_G mi1 ml2))))))) ∧ (¬ (y2 < (mi 25 4)) → ((((mi 25 4) < 30) → (vp_in (mi 25 4) 30 ∧ (∃ (r6 : Int64) (mi4 : Nat → Nat → Int32) (ml5 : Nat → Nat → Int64), call 100 [.ref 12, .int y1] (ab_G (ab_ui mi 27 ((mi 25 4)).toNatClampNeg y1) ml) (some (.long r6)) (ab_G mi4 ml5) ∧ (vp_in (mi 25 4) 30 ∧ (∃ (r9 : Int64) (mi7 : Nat → Nat → Int32) (ml8 : Nat → Nat → Int64), call 101 [.ref 12, .int y1] (ab_G mi4 (ab_ul ml5 28 ((mi 25 4)).toNatClampNeg r6)) (some (.long r9)) (ab_G mi7 ml8) ∧ (vp_in (mi4 25 4) 30 ∧ (Q (some (.int (((mi7 25 4) + 1) - 1))) (ab_G (ab_ui mi7 25 4 ((mi7 25 4) + 1)) (ab_ul ml8 29 ((mi4 25 4)).toNatClampNeg r9))))))))) ∧ (¬ ((mi 25 4) < 30) → (Q (some (.int (-1))) (ab_G mi ml)))))) :
    ab_W call ro 0 0 (ab_lk2 pl_X4_join) Q (2, [some (.ref 25), some (.int y1), some (.int y2)], [], 0, 0, ab_G mi ml) := by
  refine ab_wk 4 (f' := (if y2 < (mi 25 4) then 10 else 32, [some (.ref 25), some (.int y1), some (.int y2)], [], 0, 0, (ab_G mi ml))) rfl ⟨trivial, trivial, trivial, trivial, trivial⟩ ?_
  refine ab_wi (fun c => ?_) (fun c => ?_)
  · have h := h.1 c
    obtain ⟨p0, h⟩ := h
    obtain ⟨r3, mi1, ml2, hc, h⟩ := h
    refine ab_wc 7 (c := 27) (as := [.ref 25, .int (mi 27 (y2).toNatClampNeg), .int y1]) (pc := 21) (ll := [some (.ref 25), some (.int y1), some (.int y2)]) (st := []) (c1 := 0) (s1 := 0) (g := (ab_G mi ml)) rfl ⟨trivial, trivial, trivial, trivial, p0, trivial, trivial⟩ hc ?_
    refine ab_wk 1 (f' := (if r3 = 0 then 26 else 24, [some (.ref 25), some (.int y1), some (.int y2)], [], 0, 0, (ab_G mi1 ml2))) rfl ⟨trivial, trivial⟩ ?_
    refine ab_wi (fun c => ?_) (fun c => ?_)
    · have h := h.1 c
      exact ab_wk 2 (f' := (2, [some (.ref 25), some (.int y1), some (.int (y2 + 1))], [], 0, 0, (ab_G mi1 ml2))) rfl ⟨trivial, trivial, trivial⟩ h
    · have h := h.2 c
      exact ab_wr 2 rfl ⟨trivial, trivial⟩ h
  · have h := h.2 c
    refine ab_wk 4 (f' := (if (mi 25 4) < 30 then 43 else 41, [some (.ref 25), some (.int y1), some (.int y2)], [], 0, 0, (ab_G mi ml))) rfl ⟨trivial, trivial, trivial, trivial, trivial⟩ ?_
    refine ab_wi (fun c => ?_) (fun c => ?_)
    · have h := h.1 c
      obtain ⟨p0, h⟩ := h
      obtain ⟨r6, mi4, ml5, hc, h⟩ := h
      refine ab_wc 14 (c := 100) (as := [.ref 12, .int y1]) (pc := 69) (ll := [some (.ref 25), some (.int y1), some (.int y2)]) (st := [.int (mi 25 4), .ref 28]) (c1 := 0) (s1 := 0) (g := (ab_G (ab_ui mi 27 ((mi 25 4)).toNatClampNeg y1) ml)) rfl ⟨trivial, trivial, trivial, trivial, trivial, p0, trivial, trivial, trivial, trivial, trivial, trivial, trivial, trivial⟩ hc ?_
      obtain ⟨p0, h⟩ := h
      obtain ⟨r9, mi7, ml8, hc, h⟩ := h
      refine ab_wc 9 (c := 101) (as := [.ref 12, .int y1]) (pc := 86) (ll := [some (.ref 25), some (.int y1), some (.int y2)]) (st := [.int (mi4 25 4), .ref 29]) (c1 := 0) (s1 := 0) (g := (ab_G mi4 (ab_ul ml5 28 ((mi 25 4)).toNatClampNeg r6))) rfl ⟨p0, trivial, trivial, trivial, trivial, trivial, trivial, trivial, trivial⟩ hc ?_
      obtain ⟨p0, h⟩ := h
      exact ab_wr 12 rfl ⟨p0, trivial, trivial, trivial, trivial, trivial, trivial, trivial, trivial, trivial, trivial, trivial⟩ h
    · have h := h.2 c
      exact ab_wr 2 rfl ⟨trivial, trivial⟩ h
theorem vc_X4_askSame_0 {call : Nat → List Value → ab_S → Option Value → ab_S → Prop} {ro : ab_E} {Q : Option Value → ab_S → Prop} (x1 : Int32) (x2 : Int32) (mi : Nat → Nat → Int32) (ml : Nat → Nat → Int64)
    (h : vp_in x1 30 ∧ ((((mi 13 (x1).toNatClampNeg) = 1) → (vp_in x2 30 ∧ ((((mi 13 (x2).toNatClampNeg) = 1) → (vp_in x1 30 ∧ (vp_in x2 30 ∧ ((((mi 14 (x1).toNatClampNeg) = (mi 14 (x2).toNatClampNeg)) → (Q (some (.int 1)) (ab_G mi ml))) ∧ (¬ ((mi 14 (x1).toNatClampNeg) = (mi 14 (x2).toNatClampNeg)) → (Q (some (.int 0)) (ab_G mi ml))))))) ∧ (¬ ((mi 13 (x2).toNatClampNeg) = 1) → (Q (some (.int 0)) (ab_G mi ml)))))) ∧ (¬ ((mi 13 (x1).toNatClampNeg) = 1) → (vp_in x2 30 ∧ ((((mi 13 (x2).toNatClampNeg) = 1) → (Q (some (.int 0)) (ab_G mi ml))) ∧ (¬ ((mi 13 (x2).toNatClampNeg) = 1) → (∃ (r3 : Int64) (mi1 : Nat → Nat → Int32) (ml2 : Nat → Nat → Int64), call 28 [.ref 25, .int x1] (ab_G mi ml) (some (.long r3)) (ab_G mi1 ml2) ∧ (∃ (r6 : Int64) (mi4 : Nat → Nat → Int32) (ml5 : Nat → Nat → Int64), call 28 [.ref 25, .int x2] (ab_G mi1 ml2) (some (.long r6)) (ab_G mi4 ml5) ∧ (∃ (r9 : Int32) (mi7 : Nat → Nat → Int32) (ml8 : Nat → Nat → Int64), call 55 [.ref 9, .long r3, .long r6] (ab_G mi4 ml5) (some (.int r9)) (ab_G mi7 ml8) ∧ ((r9 = 0 ∨ r9 = 1) ∧ (Q (some (.int r9)) (ab_G mi7 ml8)))))))))))) :
    ab_W call ro 0 0 (ab_lk2 pl_X4_askSame) Q (0, [some (.ref 25), some (.int x1), some (.int x2), none], [], 0, 0, ab_G mi ml) := by
  obtain ⟨p0, h⟩ := h
  refine ab_wk 7 (f' := (if (mi 13 (x1).toNatClampNeg) = 1 then 13 else 17, [some (.ref 25), some (.int x1), some (.int x2), none], [], 0, 0, (ab_G mi ml))) rfl ⟨trivial, trivial, trivial, trivial, p0, trivial, trivial, trivial⟩ ?_
  refine ab_wi (fun c => ?_) (fun c => ?_)
  · have h := h.1 c
    obtain ⟨p0, h⟩ := h
    refine ab_wk 11 (f' := (if (mi 13 (x2).toNatClampNeg) = 1 then 33 else 37, [some (.ref 25), some (.int x1), some (.int x2), some (.int 1)], [.int 1], 0, 0, (ab_G mi ml))) rfl ⟨trivial, trivial, trivial, trivial, trivial, trivial, trivial, trivial, p0, trivial, trivial, trivial⟩ ?_
    refine ab_wi (fun c => ?_) (fun c => ?_)
    · have h := h.1 c
      refine ab_wk 3 (f' := (if (1 : Int32) = 1 then 43 else 41, [some (.ref 25), some (.int x1), some (.int x2), some (.int 1)], [], 0, 0, (ab_G mi ml))) rfl ⟨trivial, trivial, trivial, trivial⟩ ?_
      refine ab_wit (c := ((1 : Int32) = 1)) (by decide) ?_
      refine ab_wk 2 (f' := (if (1 : Int32) = 0 then 74 else 47, [some (.ref 25), some (.int x1), some (.int x2), some (.int 1)], [], 0, 0, (ab_G mi ml))) rfl ⟨trivial, trivial, trivial⟩ ?_
      refine ab_wif (c := ((1 : Int32) = 0)) (by decide) ?_
      obtain ⟨p0, p1, h⟩ := h
      refine ab_wk 11 (f' := (if (mi 14 (x1).toNatClampNeg) = (mi 14 (x2).toNatClampNeg) then 68 else 72, [some (.ref 25), some (.int x1), some (.int x2), some (.int 1)], [], 0, 0, (ab_G mi ml))) rfl ⟨trivial, trivial, trivial, trivial, p0, trivial, trivial, trivial, trivial, p1, trivial, trivial⟩ ?_
      refine ab_wi (fun c => ?_) (fun c => ?_)
      · have h := h.1 c
        exact ab_wr 3 rfl ⟨trivial, trivial, (Or.inr rfl)⟩ h
      · have h := h.2 c
        exact ab_wr 2 rfl ⟨trivial, (Or.inl rfl)⟩ h
    · have h := h.2 c
      refine ab_wk 2 (f' := (if (1 : Int32) = 0 then 43 else 41, [some (.ref 25), some (.int x1), some (.int x2), some (.int 1)], [], 0, 0, (ab_G mi ml))) rfl ⟨trivial, trivial, trivial⟩ ?_
      refine ab_wif (c := ((1 : Int32) = 0)) (by decide) ?_
      exact ab_wr 2 rfl ⟨trivial, (Or.inl rfl)⟩ h
  · have h := h.2 c
    obtain ⟨p0, h⟩ := h
    refine ab_wk 10 (f' := (if (mi 13 (x2).toNatClampNeg) = 1 then 33 else 37, [some (.ref 25), some (.int x1), some (.int x2), some (.int 0)], [.int 0], 0, 0, (ab_G mi ml))) rfl ⟨trivial, trivial, trivial, trivial, trivial, trivial, trivial, p0, trivial, trivial, trivial⟩ ?_
    refine ab_wi (fun c => ?_) (fun c => ?_)
    · have h := h.1 c
      refine ab_wk 3 (f' := (if (0 : Int32) = 1 then 43 else 41, [some (.ref 25), some (.int x1), some (.int x2), some (.int 0)], [], 0, 0, (ab_G mi ml))) rfl ⟨trivial, trivial, trivial, trivial⟩ ?_
      refine ab_wif (c := ((0 : Int32) = 1)) (by decide) ?_
      exact ab_wr 2 rfl ⟨trivial, (Or.inl rfl)⟩ h
    · have h := h.2 c
      refine ab_wk 2 (f' := (if (0 : Int32) = 0 then 43 else 41, [some (.ref 25), some (.int x1), some (.int x2), some (.int 0)], [], 0, 0, (ab_G mi ml))) rfl ⟨trivial, trivial, trivial⟩ ?_
      refine ab_wit (c := ((0 : Int32) = 0)) (by decide) ?_
      refine ab_wk 2 (f' := (if (0 : Int32) = 0 then 74 else 47, [some (.ref 25), some (.int x1), some (.int x2), some (.int 0)], [], 0, 0, (ab_G mi ml))) rfl ⟨trivial, trivial, trivial⟩ ?_
      refine ab_wit (c := ((0 : Int32) = 0)) (by decide) ?_
      obtain ⟨r3, mi1, ml2, hc, h⟩ := h
      refine ab_wc 5 (c := 28) (as := [.ref 25, .int x1]) (pc := 83) (ll := [some (.ref 25), some (.int x1), some (.int x2), some (.int 0)]) (st := [.ref 9]) (c1 := 0) (s1 := 0) (g := (ab_G mi ml)) rfl ⟨trivial, trivial, trivial, trivial, trivial⟩ hc ?_
      obtain ⟨r6, mi4, ml5, hc, h⟩ := h
      refine ab_wc 3 (c := 28) (as := [.ref 25, .int x2]) (pc := 88) (ll := [some (.ref 25), some (.int x1), some (.int x2), some (.int 0)]) (st := [.long r3, .ref 9]) (c1 := 0) (s1 := 0) (g := (ab_G mi1 ml2)) rfl ⟨trivial, trivial, trivial⟩ hc ?_
      obtain ⟨r9, mi7, ml8, hc, h⟩ := h
      refine ab_wc 1 (c := 55) (as := [.ref 9, .long r3, .long r6]) (pc := 91) (ll := [some (.ref 25), some (.int x1), some (.int x2), some (.int 0)]) (st := []) (c1 := 0) (s1 := 0) (g := (ab_G mi4 ml5)) rfl trivial hc ?_
      obtain ⟨p0, h⟩ := h
      exact ab_wr 1 rfl p0 h
theorem vc_X4_lawByWish_0 {call : Nat → List Value → ab_S → Option Value → ab_S → Prop} {ro : ab_E} {Q : Option Value → ab_S → Prop} (x1 : Int32) (mi : Nat → Nat → Int32) (ml : Nat → Nat → Int64)
    (h : ∃ (r3 : Int64) (mi1 : Nat → Nat → Int32) (ml2 : Nat → Nat → Int64), call 48 [.ref 9] (ab_G mi ml) (some (.long r3)) (ab_G mi1 ml2) ∧ (∃ (r6 : Int64) (mi4 : Nat → Nat → Int32) (ml5 : Nat → Nat → Int64), call 100 [.ref 12, .int x1] (ab_G mi1 ml2) (some (.long r6)) (ab_G mi4 ml5) ∧ (∃ (r9 : Int64) (mi7 : Nat → Nat → Int32) (ml8 : Nat → Nat → Int64), call 101 [.ref 12, .int x1] (ab_G mi4 ml5) (some (.long r9)) (ab_G mi7 ml8) ∧ (Q (some (.long ((r3 &&& (r6 ^^^ (-1))) ||| r9))) (ab_G mi7 ml8))))) :
    ab_W call ro 0 0 (ab_lk2 pl_X4_lawByWish) Q (0, [some (.ref 25), some (.int x1)], [], 0, 0, ab_G mi ml) := by
  obtain ⟨r3, mi1, ml2, hc, h⟩ := h
  refine ab_wc 3 (c := 48) (as := [.ref 9]) (pc := 7) (ll := [some (.ref 25), some (.int x1)]) (st := []) (c1 := 0) (s1 := 0) (g := (ab_G mi ml)) rfl ⟨trivial, trivial, trivial⟩ hc ?_
  obtain ⟨r6, mi4, ml5, hc, h⟩ := h
  refine ab_wc 4 (c := 100) (as := [.ref 12, .int x1]) (pc := 15) (ll := [some (.ref 25), some (.int x1)]) (st := [.long r3]) (c1 := 0) (s1 := 0) (g := (ab_G mi1 ml2)) rfl ⟨trivial, trivial, trivial, trivial⟩ hc ?_
  obtain ⟨r9, mi7, ml8, hc, h⟩ := h
  refine ab_wc 7 (c := 101) (as := [.ref 12, .int x1]) (pc := 28) (ll := [some (.ref 25), some (.int x1)]) (st := [.long (r3 &&& (r6 ^^^ (-1)))]) (c1 := 0) (s1 := 0) (g := (ab_G mi4 ml5)) rfl ⟨trivial, trivial, trivial, trivial, trivial, trivial, trivial⟩ hc ?_
  exact ab_wr 2 rfl ⟨trivial, trivial⟩ h
theorem vc_X4_touchedBy_0 {call : Nat → List Value → ab_S → Option Value → ab_S → Prop} {ro : ab_E} {Q : Option Value → ab_S → Prop} (x1 : Int32) (mi : Nat → Nat → Int32) (ml : Nat → Nat → Int64)
    (h : ab_W call ro 0 0 (ab_lk2 pl_X4_touchedBy) Q (4, [some (.ref 25), some (.int x1), some (.int 0), some (.int 0)], [], 0, 0, (ab_G mi ml))) :
    ab_W call ro 0 0 (ab_lk2 pl_X4_touchedBy) Q (0, [some (.ref 25), some (.int x1), none, none], [], 0, 0, ab_G mi ml) := by
  exact ab_wk 4 (f' := (4, [some (.ref 25), some (.int x1), some (.int 0), some (.int 0)], [], 0, 0, (ab_G mi ml))) rfl ⟨trivial, trivial, trivial, trivial, trivial⟩ h
theorem vc_X4_touchedBy_4 {call : Nat → List Value → ab_S → Option Value → ab_S → Prop} {ro : ab_E} {Q : Option Value → ab_S → Prop} (y1 : Int32) (y2 : Int32) (y3 : Int32) (mi : Nat → Nat → Int32) (ml : Nat → Nat → Int64)
    (h : ((y3 < (mi 25 4)) → (vp_in y1 30 ∧ (vp_in y3 30 ∧ (∃ (r3 : Int32) (mi1 : Nat → Nat → Int32) (ml2 : Nat → Nat → Int64), call 30 [.ref 25, .int (mi 27 (y1).toNatClampNeg), .int (mi 27 (y3).toNatClampNeg)] (ab_G mi ml) (some (.int r3)) (ab_G mi1 ml2) ∧ (((r3 = 0) → (ab_W call ro 0 0 (ab_lk2 pl_X4_touchedBy) Q (4, [some (.ref 25), some (.int y1), some (.int y2), some (.int (y3 + 1))], [], 0, 0, (ab_G mi1 ml2)))) ∧ (¬ (r3 = 0) → (ab_W call ro 0 0 (ab_lk2 pl_X4_touchedBy) Q (4, [some (.ref 25), some (.int y1), some (.int (y2 ||| ((1 : Int32) <<< (y3 &&& 31)))), some (.int (y3 + 1))], [], 0, 0, (ab_G mi1 ml2))))))))) ∧ (¬ (y3 < (mi 25 4)) → (Q (some (.int y2)) (ab_G mi ml)))) :
    ab_W call ro 0 0 (ab_lk2 pl_X4_touchedBy) Q (4, [some (.ref 25), some (.int y1), some (.int y2), some (.int y3)], [], 0, 0, ab_G mi ml) := by
  refine ab_wk 4 (f' := (if y3 < (mi 25 4) then 12 else 43, [some (.ref 25), some (.int y1), some (.int y2), some (.int y3)], [], 0, 0, (ab_G mi ml))) rfl ⟨trivial, trivial, trivial, trivial, trivial⟩ ?_
  refine ab_wi (fun c => ?_) (fun c => ?_)
  · have h := h.1 c
    obtain ⟨p0, p1, h⟩ := h
    obtain ⟨r3, mi1, ml2, hc, h⟩ := h
    refine ab_wc 10 (c := 30) (as := [.ref 25, .int (mi 27 (y1).toNatClampNeg), .int (mi 27 (y3).toNatClampNeg)]) (pc := 28) (ll := [some (.ref 25), some (.int y1), some (.int y2), some (.int y3)]) (st := []) (c1 := 0) (s1 := 0) (g := (ab_G mi ml)) rfl ⟨trivial, trivial, trivial, trivial, p0, trivial, trivial, trivial, p1, trivial⟩ hc ?_
    refine ab_wk 1 (f' := (if r3 = 0 then 37 else 31, [some (.ref 25), some (.int y1), some (.int y2), some (.int y3)], [], 0, 0, (ab_G mi1 ml2))) rfl ⟨trivial, trivial⟩ ?_
    refine ab_wi (fun c => ?_) (fun c => ?_)
    · have h := h.1 c
      exact ab_wk 2 (f' := (4, [some (.ref 25), some (.int y1), some (.int y2), some (.int (y3 + 1))], [], 0, 0, (ab_G mi1 ml2))) rfl ⟨trivial, trivial, trivial⟩ h
    · have h := h.2 c
      exact ab_wk 8 (f' := (4, [some (.ref 25), some (.int y1), some (.int (y2 ||| ((1 : Int32) <<< (y3 &&& 31)))), some (.int (y3 + 1))], [], 0, 0, (ab_G mi1 ml2))) rfl ⟨trivial, trivial, trivial, trivial, trivial, trivial, trivial, trivial, trivial⟩ h
  · have h := h.2 c
    exact ab_wr 2 rfl ⟨trivial, trivial⟩ h
theorem vc_X4_touch_0 {call : Nat → List Value → ab_S → Option Value → ab_S → Prop} {ro : ab_E} {Q : Option Value → ab_S → Prop} (x1 : Int32) (x2 : Int32) (mi : Nat → Nat → Int32) (ml : Nat → Nat → Int64)
    (h : vp_in x1 30 ∧ ((((mi 14 (x1).toNatClampNeg) = (-1)) → (Q (some (.int 0)) (ab_G mi ml))) ∧ (¬ ((mi 14 (x1).toNatClampNeg) = (-1)) → (vp_in x1 30 ∧ (vp_in x2 30 ∧ ((((mi 14 (x1).toNatClampNeg) = (mi 14 (x2).toNatClampNeg)) → (vp_in x1 30 ∧ (vp_in x2 30 ∧ ((((mi 13 (x1).toNatClampNeg) = (mi 13 (x2).toNatClampNeg)) → (vp_in x1 30 ∧ ((((mi 13 (x1).toNatClampNeg) = 2) → (∃ (r3 : Int32) (mi1 : Nat → Nat → Int32) (ml2 : Nat → Nat → Int64), call 57 [.ref 9, .int ((12 : Int32) + x1), .int ((12 : Int32) + x2)] (ab_G mi ml) (some (.int r3)) (ab_G mi1 ml2) ∧ (((r3 = 0) → (Q (some (.int 1)) (ab_G mi1 ml2))) ∧ (¬ (r3 = 0) → (Q (some (.int 0)) (ab_G mi1 ml2)))))) ∧ (¬ ((mi 13 (x1).toNatClampNeg) = 2) → (Q (some (.int 0)) (ab_G mi ml)))))) ∧ (¬ ((mi 13 (x1).toNatClampNeg) = (mi 13 (x2).toNatClampNeg)) → (Q (some (.int 1)) (ab_G mi ml))))))) ∧ (¬ ((mi 14 (x1).toNatClampNeg) = (mi 14 (x2).toNatClampNeg)) → (Q (some (.int 0)) (ab_G mi ml))))))))) :
    ab_W call ro 0 0 (ab_lk2 pl_X4_touch) Q (0, [some (.ref 25), some (.int x1), some (.int x2)], [], 0, 0, ab_G mi ml) := by
  obtain ⟨p0, h⟩ := h
  refine ab_wk 7 (f' := (if (mi 14 (x1).toNatClampNeg) = (-1) then 34 else 13, [some (.ref 25), some (.int x1), some (.int x2)], [], 0, 0, (ab_G mi ml))) rfl ⟨trivial, trivial, trivial, trivial, p0, trivial, trivial, trivial⟩ ?_
  refine ab_wi (fun c => ?_) (fun c => ?_)
  · have h := h.1 c
    exact ab_wr 2 rfl ⟨trivial, (Or.inl rfl)⟩ h
  · have h := h.2 c
    obtain ⟨p0, p1, h⟩ := h
    refine ab_wk 11 (f' := (if (mi 14 (x1).toNatClampNeg) = (mi 14 (x2).toNatClampNeg) then 36 else 34, [some (.ref 25), some (.int x1), some (.int x2)], [], 0, 0, (ab_G mi ml))) rfl ⟨trivial, trivial, trivial, trivial, p0, trivial, trivial, trivial, trivial, p1, trivial, trivial⟩ ?_
    refine ab_wi (fun c => ?_) (fun c => ?_)
    · have h := h.1 c
      obtain ⟨p0, p1, h⟩ := h
      refine ab_wk 11 (f' := (if (mi 13 (x1).toNatClampNeg) = (mi 13 (x2).toNatClampNeg) then 59 else 57, [some (.ref 25), some (.int x1), some (.int x2)], [], 0, 0, (ab_G mi ml))) rfl ⟨trivial, trivial, trivial, trivial, p0, trivial, trivial, trivial, trivial, p1, trivial, trivial⟩ ?_
      refine ab_wi (fun c => ?_) (fun c => ?_)
      · have h := h.1 c
        obtain ⟨p0, h⟩ := h
        refine ab_wk 7 (f' := (if (mi 13 (x1).toNatClampNeg) = 2 then 72 else 94, [some (.ref 25), some (.int x1), some (.int x2)], [], 0, 0, (ab_G mi ml))) rfl ⟨trivial, trivial, trivial, trivial, p0, trivial, trivial, trivial⟩ ?_
        refine ab_wi (fun c => ?_) (fun c => ?_)
        · have h := h.1 c
          obtain ⟨r3, mi1, ml2, hc, h⟩ := h
          refine ab_wc 9 (c := 57) (as := [.ref 9, .int ((12 : Int32) + x1), .int ((12 : Int32) + x2)]) (pc := 87) (ll := [some (.ref 25), some (.int x1), some (.int x2)]) (st := []) (c1 := 0) (s1 := 0) (g := (ab_G mi ml)) rfl ⟨trivial, trivial, trivial, trivial, trivial, trivial, trivial, trivial, trivial⟩ hc ?_
          refine ab_wk 1 (f' := (if r3 = 0 then 90 else 94, [some (.ref 25), some (.int x1), some (.int x2)], [], 0, 0, (ab_G mi1 ml2))) rfl ⟨trivial, trivial⟩ ?_
          refine ab_wi (fun c => ?_) (fun c => ?_)
          · have h := h.1 c
            exact ab_wr 3 rfl ⟨trivial, trivial, (Or.inr rfl)⟩ h
          · have h := h.2 c
            exact ab_wr 2 rfl ⟨trivial, (Or.inl rfl)⟩ h
        · have h := h.2 c
          exact ab_wr 2 rfl ⟨trivial, (Or.inl rfl)⟩ h
      · have h := h.2 c
        exact ab_wr 2 rfl ⟨trivial, (Or.inr rfl)⟩ h
    · have h := h.2 c
      exact ab_wr 2 rfl ⟨trivial, (Or.inl rfl)⟩ h
theorem vc_X4_wishesIn_0 {call : Nat → List Value → ab_S → Option Value → ab_S → Prop} {ro : ab_E} {Q : Option Value → ab_S → Prop} (x1 : Int32) (mi : Nat → Nat → Int32) (ml : Nat → Nat → Int64)
    (h : ab_W call ro 0 0 (ab_lk2 pl_X4_wishesIn) Q (4, [some (.ref 25), some (.int x1), some (.int 0), some (.int 0)], [], 0, 0, (ab_G mi ml))) :
    ab_W call ro 0 0 (ab_lk2 pl_X4_wishesIn) Q (0, [some (.ref 25), some (.int x1), none, none], [], 0, 0, ab_G mi ml) := by
  exact ab_wk 4 (f' := (4, [some (.ref 25), some (.int x1), some (.int 0), some (.int 0)], [], 0, 0, (ab_G mi ml))) rfl ⟨trivial, trivial, trivial, trivial, trivial⟩ h
theorem vc_X4_wishesIn_4 {call : Nat → List Value → ab_S → Option Value → ab_S → Prop} {ro : ab_E} {Q : Option Value → ab_S → Prop} (y1 : Int32) (y2 : Int32) (y3 : Int32) (mi : Nat → Nat → Int32) (ml : Nat → Nat → Int64)
    (h : ((y3 < (mi 12 5)) → (vp_in y3 30 ∧ ((((mi 26 (y3).toNatClampNeg) = y1) → (ab_W call ro 0 0 (ab_lk2 pl_X4_wishesIn) Q (4, [some (.ref 25), some (.int y1), some (.int (y2 + 1)), some (.int (y3 + 1))], [], 0, 0, (ab_G mi ml)))) ∧ (¬ ((mi 26 (y3).toNatClampNeg) = y1) → (ab_W call ro 0 0 (ab_lk2 pl_X4_wishesIn) Q (4, [some (.ref 25), some (.int y1), some (.int y2), some (.int (y3 + 1))], [], 0, 0, (ab_G mi ml))))))) ∧ (¬ (y3 < (mi 12 5)) → (Q (some (.int y2)) (ab_G mi ml)))) :
    ab_W call ro 0 0 (ab_lk2 pl_X4_wishesIn) Q (4, [some (.ref 25), some (.int y1), some (.int y2), some (.int y3)], [], 0, 0, ab_G mi ml) := by
  refine ab_wk 5 (f' := (if y3 < (mi 12 5) then 15 else 34, [some (.ref 25), some (.int y1), some (.int y2), some (.int y3)], [], 0, 0, (ab_G mi ml))) rfl ⟨trivial, trivial, trivial, trivial, trivial, trivial⟩ ?_
  refine ab_wi (fun c => ?_) (fun c => ?_)
  · have h := h.1 c
    obtain ⟨p0, h⟩ := h
    refine ab_wk 6 (f' := (if (mi 26 (y3).toNatClampNeg) = y1 then 25 else 28, [some (.ref 25), some (.int y1), some (.int y2), some (.int y3)], [], 0, 0, (ab_G mi ml))) rfl ⟨trivial, trivial, trivial, p0, trivial, trivial, trivial⟩ ?_
    refine ab_wi (fun c => ?_) (fun c => ?_)
    · have h := h.1 c
      exact ab_wk 3 (f' := (4, [some (.ref 25), some (.int y1), some (.int (y2 + 1)), some (.int (y3 + 1))], [], 0, 0, (ab_G mi ml))) rfl ⟨trivial, trivial, trivial, trivial⟩ h
    · have h := h.2 c
      exact ab_wk 2 (f' := (4, [some (.ref 25), some (.int y1), some (.int y2), some (.int (y3 + 1))], [], 0, 0, (ab_G mi ml))) rfl ⟨trivial, trivial, trivial⟩ h
  · have h := h.2 c
    exact ab_wr 2 rfl ⟨trivial, trivial⟩ h
theorem vc_X4_lawBy_0 {call : Nat → List Value → ab_S → Option Value → ab_S → Prop} {ro : ab_E} {Q : Option Value → ab_S → Prop} (x1 : Int32) (mi : Nat → Nat → Int32) (ml : Nat → Nat → Int64)
    (h : ∃ (r3 : Int64) (mi1 : Nat → Nat → Int32) (ml2 : Nat → Nat → Int64), call 48 [.ref 9] (ab_G mi ml) (some (.long r3)) (ab_G mi1 ml2) ∧ (ab_W call ro 0 0 (ab_lk2 pl_X4_lawBy) Q (11, [some (.ref 25), some (.int x1), some (.long r3), none, some (.int 0)], [], 0, 0, (ab_G mi1 ml2)))) :
    ab_W call ro 0 0 (ab_lk2 pl_X4_lawBy) Q (0, [some (.ref 25), some (.int x1), none, none, none], [], 0, 0, ab_G mi ml) := by
  obtain ⟨r3, mi1, ml2, hc, h⟩ := h
  refine ab_wc 3 (c := 48) (as := [.ref 9]) (pc := 7) (ll := [some (.ref 25), some (.int x1), none, none, none]) (st := []) (c1 := 0) (s1 := 0) (g := (ab_G mi ml)) rfl ⟨trivial, trivial, trivial⟩ hc ?_
  exact ab_wk 3 (f' := (11, [some (.ref 25), some (.int x1), some (.long r3), none, some (.int 0)], [], 0, 0, (ab_G mi1 ml2))) rfl ⟨trivial, trivial, trivial, trivial⟩ h
theorem vc_X4_lawBy_11 {call : Nat → List Value → ab_S → Option Value → ab_S → Prop} {ro : ab_E} {Q : Option Value → ab_S → Prop} (y1 : Int32) (y2 : Int64) (y4 : Int32) (mi : Nat → Nat → Int32) (ml : Nat → Nat → Int64)
    (h : ((y4 < (mi 25 4)) → ((((y1 >>> (y4 &&& 31)) = 0) → (Q (some (.long y2)) (ab_G mi ml))) ∧ (¬ ((y1 >>> (y4 &&& 31)) = 0) → (((((y1 >>> (y4 &&& 31)) &&& 1) = 0) → (ab_W call ro 0 0 (ab_lk2 pl_X4_lawBy) Q (11, [some (.ref 25), some (.int y1), some (.long y2), none, some (.int (y4 + 1))], [], 0, 0, (ab_G mi ml)))) ∧ (¬ (((y1 >>> (y4 &&& 31)) &&& 1) = 0) → (vp_in y4 30 ∧ (vp_in y4 30 ∧ (ab_W call ro 0 0 (ab_lk2 pl_X4_lawBy) Q (11, [some (.ref 25), some (.int y1), some (.long ((y2 &&& ((ml 28 (y4).toNatClampNeg) ^^^ (-1))) ||| (ml 29 (y4).toNatClampNeg))), none, some (.int (y4 + 1))], [], 0, 0, (ab_G mi ml)))))))))) ∧ (¬ (y4 < (mi 25 4)) → (Q (some (.long y2)) (ab_G mi ml)))) :
    ab_W call ro 0 0 (ab_lk2 pl_X4_lawBy) Q (11, [some (.ref 25), some (.int y1), some (.long y2), none, some (.int y4)], [], 0, 0, ab_G mi ml) := by
  refine ab_wk 4 (f' := (if y4 < (mi 25 4) then 20 else 64, [some (.ref 25), some (.int y1), some (.long y2), none, some (.int y4)], [], 0, 0, (ab_G mi ml))) rfl ⟨trivial, trivial, trivial, trivial, trivial⟩ ?_
  refine ab_wi (fun c => ?_) (fun c => ?_)
  · have h := h.1 c
    refine ab_wk 4 (f' := (if (y1 >>> (y4 &&& 31)) = 0 then 64 else 27, [some (.ref 25), some (.int y1), some (.long y2), none, some (.int y4)], [], 0, 0, (ab_G mi ml))) rfl ⟨trivial, trivial, trivial, trivial, trivial⟩ ?_
    refine ab_wi (fun c => ?_) (fun c => ?_)
    · have h := h.1 c
      exact ab_wr 2 rfl ⟨trivial, trivial⟩ h
    · have h := h.2 c
      refine ab_wk 6 (f' := (if ((y1 >>> (y4 &&& 31)) &&& 1) = 0 then 58 else 36, [some (.ref 25), some (.int y1), some (.long y2), none, some (.int y4)], [], 0, 0, (ab_G mi ml))) rfl ⟨trivial, trivial, trivial, trivial, trivial, trivial, trivial⟩ ?_
      refine ab_wi (fun c => ?_) (fun c => ?_)
      · have h := h.1 c
        exact ab_wk 2 (f' := (11, [some (.ref 25), some (.int y1), some (.long y2), none, some (.int (y4 + 1))], [], 0, 0, (ab_G mi ml))) rfl ⟨trivial, trivial, trivial⟩ h
      · have h := h.2 c
        obtain ⟨p0, p1, h⟩ := h
        exact ab_wk 16 (f' := (11, [some (.ref 25), some (.int y1), some (.long ((y2 &&& ((ml 28 (y4).toNatClampNeg) ^^^ (-1))) ||| (ml 29 (y4).toNatClampNeg))), none, some (.int (y4 + 1))], [], 0, 0, (ab_G mi ml))) rfl ⟨trivial, trivial, trivial, trivial, p0, trivial, trivial, trivial, trivial, trivial, trivial, p1, trivial, trivial, trivial, trivial, trivial⟩ h
  · have h := h.2 c
    exact ab_wr 2 rfl ⟨trivial, trivial⟩ h
theorem vc_X4_clashOf_0 {call : Nat → List Value → ab_S → Option Value → ab_S → Prop} {ro : ab_E} {Q : Option Value → ab_S → Prop} (x1 : Int32) (x2 : Int32) (mi : Nat → Nat → Int32) (ml : Nat → Nat → Int64)
    (h : vp_in x1 30 ∧ ((((((mi 30 (x1).toNatClampNeg) >>> (x2 &&& 31)) &&& 1) = 0) → (∃ (r3 : Int64) (mi1 : Nat → Nat → Int32) (ml2 : Nat → Nat → Int64), call 32 [.ref 25, .int (((1 : Int32) <<< (x1 &&& 31)) ||| ((1 : Int32) <<< (x2 &&& 31)))] (ab_G mi ml) (some (.long r3)) (ab_G mi1 ml2) ∧ (∃ (r6 : Int32) (mi4 : Nat → Nat → Int32) (ml5 : Nat → Nat → Int64), call 53 [.ref 9, .long r3] (ab_G mi1 ml2) (some (.int r6)) (ab_G mi4 ml5) ∧ (Q (some (.int r6)) (ab_G mi4 ml5))))) ∧ (¬ ((((mi 30 (x1).toNatClampNeg) >>> (x2 &&& 31)) &&& 1) = 0) → (Q (some (.int 1)) (ab_G mi ml))))) :
    ab_W call ro 0 0 (ab_lk2 pl_X4_clashOf) Q (0, [some (.ref 25), some (.int x1), some (.int x2)], [], 0, 0, ab_G mi ml) := by
  obtain ⟨p0, h⟩ := h
  refine ab_wk 9 (f' := (if (((mi 30 (x1).toNatClampNeg) >>> (x2 &&& 31)) &&& 1) = 0 then 15 else 13, [some (.ref 25), some (.int x1), some (.int x2)], [], 0, 0, (ab_G mi ml))) rfl ⟨trivial, trivial, trivial, p0, trivial, trivial, trivial, trivial, trivial, trivial⟩ ?_
  refine ab_wi (fun c => ?_) (fun c => ?_)
  · have h := h.1 c
    obtain ⟨r3, mi1, ml2, hc, h⟩ := h
    refine ab_wc 11 (c := 32) (as := [.ref 25, .int (((1 : Int32) <<< (x1 &&& 31)) ||| ((1 : Int32) <<< (x2 &&& 31)))]) (pc := 30) (ll := [some (.ref 25), some (.int x1), some (.int x2)]) (st := [.ref 9]) (c1 := 0) (s1 := 0) (g := (ab_G mi ml)) rfl ⟨trivial, trivial, trivial, trivial, trivial, trivial, trivial, trivial, trivial, trivial, trivial⟩ hc ?_
    obtain ⟨r6, mi4, ml5, hc, h⟩ := h
    refine ab_wc 1 (c := 53) (as := [.ref 9, .long r3]) (pc := 33) (ll := [some (.ref 25), some (.int x1), some (.int x2)]) (st := []) (c1 := 0) (s1 := 0) (g := (ab_G mi1 ml2)) rfl trivial hc ?_
    exact ab_wr 1 rfl trivial h
  · have h := h.2 c
    exact ab_wr 2 rfl ⟨trivial, trivial⟩ h
theorem vc_X4_goes_0 {call : Nat → List Value → ab_S → Option Value → ab_S → Prop} {ro : ab_E} {Q : Option Value → ab_S → Prop} (x1 : Int32) (mi : Nat → Nat → Int32) (ml : Nat → Nat → Int64)
    (h : (((x1 / 64) < 0) → (∃ (r3 : Int32) (mi1 : Nat → Nat → Int32) (ml2 : Nat → Nat → Int64), call 35 [.ref 25, .int x1] (ab_G mi ml) (some (.int r3)) (ab_G mi1 ml2) ∧ ((r3 = 0 ∨ r3 = 1) ∧ (Q (some (.int r3)) (ab_G mi1 ml2))))) ∧ (¬ ((x1 / 64) < 0) → ((((x1 / 64) < 64) → (vp_in (x1 / 64) 64 ∧ ((((lg_cmp ((ml 31 ((x1 / 64)).toNatClampNeg) &&& ((1 : Int64) <<< (((x1 &&& 63)).toInt64 &&& 63))) 0) = 0) → (vp_in (x1 / 64) 64 ∧ (vp_in (x1 / 64) 64 ∧ (∃ (r6 : Int32) (mi4 : Nat → Nat → Int32) (ml5 : Nat → Nat → Int64), call 35 [.ref 25, .int x1] (ab_G mi (ab_ul ml 31 ((x1 / 64)).toNatClampNeg ((ml 31 ((x1 / 64)).toNatClampNeg) ||| ((1 : Int64) <<< (((x1 &&& 63)).toInt64 &&& 63))))) (some (.int r6)) (ab_G mi4 ml5) ∧ (((r6 = 0) → (vp_in (x1 / 64) 64 ∧ ((((lg_cmp ((ml5 32 ((x1 / 64)).toNatClampNeg) &&& ((1 : Int64) <<< (((x1 &&& 63)).toInt64 &&& 63))) 0) = 0) → (Q (some (.int 0)) (ab_G mi4 ml5))) ∧ (¬ ((lg_cmp ((ml5 32 ((x1 / 64)).toNatClampNeg) &&& ((1 : Int64) <<< (((x1 &&& 63)).toInt64 &&& 63))) 0) = 0) → (Q (some (.int 1)) (ab_G mi4 ml5)))))) ∧ (¬ (r6 = 0) → (vp_in (x1 / 64) 64 ∧ (vp_in (x1 / 64) 64 ∧ (vp_in (x1 / 64) 64 ∧ ((((lg_cmp (((ab_ul ml5 32 ((x1 / 64)).toNatClampNeg ((ml5 32 ((x1 / 64)).toNatClampNeg) ||| ((1 : Int64) <<< (((x1 &&& 63)).toInt64 &&& 63)))) 32 ((x1 / 64)).toNatClampNeg) &&& ((1 : Int64) <<< (((x1 &&& 63)).toInt64 &&& 63))) 0) = 0) → (Q (some (.int 0)) (ab_G mi4 (ab_ul ml5 32 ((x1 / 64)).toNatClampNeg ((ml5 32 ((x1 / 64)).toNatClampNeg) ||| ((1 : Int64) <<< (((x1 &&& 63)).toInt64 &&& 63))))))) ∧ (¬ ((lg_cmp (((ab_ul ml5 32 ((x1 / 64)).toNatClampNeg ((ml5 32 ((x1 / 64)).toNatClampNeg) ||| ((1 : Int64) <<< (((x1 &&& 63)).toInt64 &&& 63)))) 32 ((x1 / 64)).toNatClampNeg) &&& ((1 : Int64) <<< (((x1 &&& 63)).toInt64 &&& 63))) 0) = 0) → (Q (some (.int 1)) (ab_G mi4 (ab_ul ml5 32 ((x1 / 64)).toNatClampNeg ((ml5 32 ((x1 / 64)).toNatClampNeg) ||| ((1 : Int64) <<< (((x1 &&& 63)).toInt64 &&& 63))))))))))))))))) ∧ (¬ ((lg_cmp ((ml 31 ((x1 / 64)).toNatClampNeg) &&& ((1 : Int64) <<< (((x1 &&& 63)).toInt64 &&& 63))) 0) = 0) → (vp_in (x1 / 64) 64 ∧ ((((lg_cmp ((ml 32 ((x1 / 64)).toNatClampNeg) &&& ((1 : Int64) <<< (((x1 &&& 63)).toInt64 &&& 63))) 0) = 0) → (Q (some (.int 0)) (ab_G mi ml))) ∧ (¬ ((lg_cmp ((ml 32 ((x1 / 64)).toNatClampNeg) &&& ((1 : Int64) <<< (((x1 &&& 63)).toInt64 &&& 63))) 0) = 0) → (Q (some (.int 1)) (ab_G mi ml))))))))) ∧ (¬ ((x1 / 64) < 64) → (∃ (r9 : Int32) (mi7 : Nat → Nat → Int32) (ml8 : Nat → Nat → Int64), call 35 [.ref 25, .int x1] (ab_G mi ml) (some (.int r9)) (ab_G mi7 ml8) ∧ ((r9 = 0 ∨ r9 = 1) ∧ (Q (some (.int r9)) (ab_G mi7 ml8)))))))) :
    ab_W call ro 0 0 (ab_lk2 pl_X4_goes) Q (0, [some (.ref 25), some (.int x1), none, none, none], [], 0, 0, ab_G mi ml) := by
  refine ab_wk 6 (f' := (if (x1 / 64) < 0 then 15 else 9, [some (.ref 25), some (.int x1), some (.int (x1 / 64)), none, none], [], 0, 0, (ab_G mi ml))) rfl ⟨trivial, trivial, (by decide), trivial, trivial, trivial, trivial⟩ ?_
  refine ab_wi (fun c => ?_) (fun c => ?_)
  · have h := h.1 c
    obtain ⟨r3, mi1, ml2, hc, h⟩ := h
    refine ab_wc 3 (c := 35) (as := [.ref 25, .int x1]) (pc := 20) (ll := [some (.ref 25), some (.int x1), some (.int (x1 / 64)), none, none]) (st := []) (c1 := 0) (s1 := 0) (g := (ab_G mi ml)) rfl ⟨trivial, trivial, trivial⟩ hc ?_
    obtain ⟨p0, h⟩ := h
    exact ab_wr 1 rfl p0 h
  · have h := h.2 c
    refine ab_wk 3 (f' := (if (x1 / 64) < 64 then 21 else 15, [some (.ref 25), some (.int x1), some (.int (x1 / 64)), none, none], [], 0, 0, (ab_G mi ml))) rfl ⟨trivial, trivial, trivial, trivial⟩ ?_
    refine ab_wi (fun c => ?_) (fun c => ?_)
    · have h := h.1 c
      obtain ⟨p0, h⟩ := h
      refine ab_wk 15 (f' := (if (lg_cmp ((ml 31 ((x1 / 64)).toNatClampNeg) &&& ((1 : Int64) <<< (((x1 &&& 63)).toInt64 &&& 63))) 0) = 0 then 41 else 69, [some (.ref 25), some (.int x1), some (.int (x1 / 64)), some (.long ((1 : Int64) <<< (((x1 &&& 63)).toInt64 &&& 63))), none], [], 0, 0, (ab_G mi ml))) rfl ⟨trivial, trivial, trivial, trivial, trivial, trivial, trivial, trivial, trivial, p0, trivial, trivial, trivial, trivial, trivial, trivial⟩ ?_
      refine ab_wi (fun c => ?_) (fun c => ?_)
      · have h := h.1 c
        obtain ⟨p0, p1, h⟩ := h
        obtain ⟨r6, mi4, ml5, hc, h⟩ := h
        refine ab_wc 11 (c := 35) (as := [.ref 25, .int x1]) (pc := 56) (ll := [some (.ref 25), some (.int x1), some (.int (x1 / 64)), some (.long ((1 : Int64) <<< (((x1 &&& 63)).toInt64 &&& 63))), none]) (st := []) (c1 := 0) (s1 := 0) (g := (ab_G mi (ab_ul ml 31 ((x1 / 64)).toNatClampNeg ((ml 31 ((x1 / 64)).toNatClampNeg) ||| ((1 : Int64) <<< (((x1 &&& 63)).toInt64 &&& 63)))))) rfl ⟨trivial, trivial, trivial, trivial, p0, trivial, trivial, p1, trivial, trivial, trivial⟩ hc ?_
        refine ab_wk 1 (f' := (if r6 = 0 then 69 else 59, [some (.ref 25), some (.int x1), some (.int (x1 / 64)), some (.long ((1 : Int64) <<< (((x1 &&& 63)).toInt64 &&& 63))), none], [], 0, 0, (ab_G mi4 ml5))) rfl ⟨trivial, trivial⟩ ?_
        refine ab_wi (fun c => ?_) (fun c => ?_)
        · have h := h.1 c
          obtain ⟨p0, h⟩ := h
          refine ab_wk 9 (f' := (if (lg_cmp ((ml5 32 ((x1 / 64)).toNatClampNeg) &&& ((1 : Int64) <<< (((x1 &&& 63)).toInt64 &&& 63))) 0) = 0 then 86 else 82, [some (.ref 25), some (.int x1), some (.int (x1 / 64)), some (.long ((1 : Int64) <<< (((x1 &&& 63)).toInt64 &&& 63))), none], [], 0, 0, (ab_G mi4 ml5))) rfl ⟨trivial, trivial, trivial, p0, trivial, trivial, trivial, trivial, trivial, trivial⟩ ?_
          refine ab_wi (fun c => ?_) (fun c => ?_)
          · have h := h.1 c
            exact ab_wr 2 rfl ⟨trivial, (Or.inl rfl)⟩ h
          · have h := h.2 c
            exact ab_wr 3 rfl ⟨trivial, trivial, (Or.inr rfl)⟩ h
        · have h := h.2 c
          obtain ⟨p0, p1, p2, h⟩ := h
          refine ab_wk 17 (f' := (if (lg_cmp (((ab_ul ml5 32 ((x1 / 64)).toNatClampNeg ((ml5 32 ((x1 / 64)).toNatClampNeg) ||| ((1 : Int64) <<< (((x1 &&& 63)).toInt64 &&& 63)))) 32 ((x1 / 64)).toNatClampNeg) &&& ((1 : Int64) <<< (((x1 &&& 63)).toInt64 &&& 63))) 0) = 0 then 86 else 82, [some (.ref 25), some (.int x1), some (.int (x1 / 64)), some (.long ((1 : Int64) <<< (((x1 &&& 63)).toInt64 &&& 63))), none], [], 0, 0, (ab_G mi4 (ab_ul ml5 32 ((x1 / 64)).toNatClampNeg ((ml5 32 ((x1 / 64)).toNatClampNeg) ||| ((1 : Int64) <<< (((x1 &&& 63)).toInt64 &&& 63))))))) rfl ⟨trivial, trivial, trivial, trivial, p0, trivial, trivial, p1, trivial, trivial, trivial, p2, trivial, trivial, trivial, trivial, trivial, trivial⟩ ?_
          refine ab_wi (fun c => ?_) (fun c => ?_)
          · have h := h.1 c
            exact ab_wr 2 rfl ⟨trivial, (Or.inl rfl)⟩ h
          · have h := h.2 c
            exact ab_wr 3 rfl ⟨trivial, trivial, (Or.inr rfl)⟩ h
      · have h := h.2 c
        obtain ⟨p0, h⟩ := h
        refine ab_wk 9 (f' := (if (lg_cmp ((ml 32 ((x1 / 64)).toNatClampNeg) &&& ((1 : Int64) <<< (((x1 &&& 63)).toInt64 &&& 63))) 0) = 0 then 86 else 82, [some (.ref 25), some (.int x1), some (.int (x1 / 64)), some (.long ((1 : Int64) <<< (((x1 &&& 63)).toInt64 &&& 63))), none], [], 0, 0, (ab_G mi ml))) rfl ⟨trivial, trivial, trivial, p0, trivial, trivial, trivial, trivial, trivial, trivial⟩ ?_
        refine ab_wi (fun c => ?_) (fun c => ?_)
        · have h := h.1 c
          exact ab_wr 2 rfl ⟨trivial, (Or.inl rfl)⟩ h
        · have h := h.2 c
          exact ab_wr 3 rfl ⟨trivial, trivial, (Or.inr rfl)⟩ h
    · have h := h.2 c
      obtain ⟨r9, mi7, ml8, hc, h⟩ := h
      refine ab_wc 3 (c := 35) (as := [.ref 25, .int x1]) (pc := 20) (ll := [some (.ref 25), some (.int x1), some (.int (x1 / 64)), none, none]) (st := []) (c1 := 0) (s1 := 0) (g := (ab_G mi ml)) rfl ⟨trivial, trivial, trivial⟩ hc ?_
      obtain ⟨p0, h⟩ := h
      exact ab_wr 1 rfl p0 h
theorem vc_X4_looksGoing_0 {call : Nat → List Value → ab_S → Option Value → ab_S → Prop} {ro : ab_E} {Q : Option Value → ab_S → Prop} (x1 : Int32) (mi : Nat → Nat → Int32) (ml : Nat → Nat → Int64)
    (h : ab_W call ro 0 0 (ab_lk2 pl_X4_looksGoing) Q (2, [some (.ref 25), some (.int x1), some (.int 0)], [], 0, 0, (ab_G mi ml))) :
    ab_W call ro 0 0 (ab_lk2 pl_X4_looksGoing) Q (0, [some (.ref 25), some (.int x1), none], [], 0, 0, ab_G mi ml) := by
  exact ab_wk 2 (f' := (2, [some (.ref 25), some (.int x1), some (.int 0)], [], 0, 0, (ab_G mi ml))) rfl ⟨trivial, trivial, trivial⟩ h
theorem vc_X4_looksGoing_2 {call : Nat → List Value → ab_S → Option Value → ab_S → Prop} {ro : ab_E} {Q : Option Value → ab_S → Prop} (y1 : Int32) (y2 : Int32) (mi : Nat → Nat → Int32) (ml : Nat → Nat → Int64)
    (h : ((y2 < (mi 25 4)) → ((((y1 >>> (y2 &&& 31)) = 0) → (∃ (r3 : Int64) (mi1 : Nat → Nat → Int32) (ml2 : Nat → Nat → Int64), call 32 [.ref 25, .int y1] (ab_G mi ml) (some (.long r3)) (ab_G mi1 ml2) ∧ (∃ (r6 : Int32) (mi4 : Nat → Nat → Int32) (ml5 : Nat → Nat → Int64), call 53 [.ref 9, .long r3] (ab_G mi1 ml2) (some (.int r6)) (ab_G mi4 ml5) ∧ (((r6 = 0) → (Q (some (.int 1)) (ab_G mi4 ml5))) ∧ (¬ (r6 = 0) → (Q (some (.int 0)) (ab_G mi4 ml5))))))) ∧ (¬ ((y1 >>> (y2 &&& 31)) = 0) → (((((y1 >>> (y2 &&& 31)) &&& 1) = 0) → (ab_W call ro 0 0 (ab_lk2 pl_X4_looksGoing) Q (2, [some (.ref 25), some (.int y1), some (.int (y2 + 1))], [], 0, 0, (ab_G mi ml)))) ∧ (¬ (((y1 >>> (y2 &&& 31)) &&& 1) = 0) → (vp_in y2 30 ∧ (((((mi 30 (y2).toNatClampNeg) &&& y1) = 0) → (ab_W call ro 0 0 (ab_lk2 pl_X4_looksGoing) Q (2, [some (.ref 25), some (.int y1), some (.int (y2 + 1))], [], 0, 0, (ab_G mi ml)))) ∧ (¬ (((mi 30 (y2).toNatClampNeg) &&& y1) = 0) → (Q (some (.int 0)) (ab_G mi ml)))))))))) ∧ (¬ (y2 < (mi 25 4)) → (∃ (r9 : Int64) (mi7 : Nat → Nat → Int32) (ml8 : Nat → Nat → Int64), call 32 [.ref 25, .int y1] (ab_G mi ml) (some (.long r9)) (ab_G mi7 ml8) ∧ (∃ (r12 : Int32) (mi10 : Nat → Nat → Int32) (ml11 : Nat → Nat → Int64), call 53 [.ref 9, .long r9] (ab_G mi7 ml8) (some (.int r12)) (ab_G mi10 ml11) ∧ (((r12 = 0) → (Q (some (.int 1)) (ab_G mi10 ml11))) ∧ (¬ (r12 = 0) → (Q (some (.int 0)) (ab_G mi10 ml11)))))))) :
    ab_W call ro 0 0 (ab_lk2 pl_X4_looksGoing) Q (2, [some (.ref 25), some (.int y1), some (.int y2)], [], 0, 0, ab_G mi ml) := by
  refine ab_wk 4 (f' := (if y2 < (mi 25 4) then 10 else 43, [some (.ref 25), some (.int y1), some (.int y2)], [], 0, 0, (ab_G mi ml))) rfl ⟨trivial, trivial, trivial, trivial, trivial⟩ ?_
  refine ab_wi (fun c => ?_) (fun c => ?_)
  · have h := h.1 c
    refine ab_wk 4 (f' := (if (y1 >>> (y2 &&& 31)) = 0 then 43 else 16, [some (.ref 25), some (.int y1), some (.int y2)], [], 0, 0, (ab_G mi ml))) rfl ⟨trivial, trivial, trivial, trivial, trivial⟩ ?_
    refine ab_wi (fun c => ?_) (fun c => ?_)
    · have h := h.1 c
      obtain ⟨r3, mi1, ml2, hc, h⟩ := h
      refine ab_wc 5 (c := 32) (as := [.ref 25, .int y1]) (pc := 52) (ll := [some (.ref 25), some (.int y1), some (.int y2)]) (st := [.ref 9]) (c1 := 0) (s1 := 0) (g := (ab_G mi ml)) rfl ⟨trivial, trivial, trivial, trivial, trivial⟩ hc ?_
      obtain ⟨r6, mi4, ml5, hc, h⟩ := h
      refine ab_wc 1 (c := 53) (as := [.ref 9, .long r3]) (pc := 55) (ll := [some (.ref 25), some (.int y1), some (.int y2)]) (st := []) (c1 := 0) (s1 := 0) (g := (ab_G mi1 ml2)) rfl trivial hc ?_
      refine ab_wk 1 (f' := (if r6 = 0 then 58 else 62, [some (.ref 25), some (.int y1), some (.int y2)], [], 0, 0, (ab_G mi4 ml5))) rfl ⟨trivial, trivial⟩ ?_
      refine ab_wi (fun c => ?_) (fun c => ?_)
      · have h := h.1 c
        exact ab_wr 3 rfl ⟨trivial, trivial, (Or.inr rfl)⟩ h
      · have h := h.2 c
        exact ab_wr 2 rfl ⟨trivial, (Or.inl rfl)⟩ h
    · have h := h.2 c
      refine ab_wk 6 (f' := (if ((y1 >>> (y2 &&& 31)) &&& 1) = 0 then 37 else 24, [some (.ref 25), some (.int y1), some (.int y2)], [], 0, 0, (ab_G mi ml))) rfl ⟨trivial, trivial, trivial, trivial, trivial, trivial, trivial⟩ ?_
      refine ab_wi (fun c => ?_) (fun c => ?_)
      · have h := h.1 c
        exact ab_wk 2 (f' := (2, [some (.ref 25), some (.int y1), some (.int (y2 + 1))], [], 0, 0, (ab_G mi ml))) rfl ⟨trivial, trivial, trivial⟩ h
      · have h := h.2 c
        obtain ⟨p0, h⟩ := h
        refine ab_wk 7 (f' := (if ((mi 30 (y2).toNatClampNeg) &&& y1) = 0 then 37 else 35, [some (.ref 25), some (.int y1), some (.int y2)], [], 0, 0, (ab_G mi ml))) rfl ⟨trivial, trivial, trivial, p0, trivial, trivial, trivial, trivial⟩ ?_
        refine ab_wi (fun c => ?_) (fun c => ?_)
        · have h := h.1 c
          exact ab_wk 2 (f' := (2, [some (.ref 25), some (.int y1), some (.int (y2 + 1))], [], 0, 0, (ab_G mi ml))) rfl ⟨trivial, trivial, trivial⟩ h
        · have h := h.2 c
          exact ab_wr 2 rfl ⟨trivial, (Or.inl rfl)⟩ h
  · have h := h.2 c
    obtain ⟨r9, mi7, ml8, hc, h⟩ := h
    refine ab_wc 5 (c := 32) (as := [.ref 25, .int y1]) (pc := 52) (ll := [some (.ref 25), some (.int y1), some (.int y2)]) (st := [.ref 9]) (c1 := 0) (s1 := 0) (g := (ab_G mi ml)) rfl ⟨trivial, trivial, trivial, trivial, trivial⟩ hc ?_
    obtain ⟨r12, mi10, ml11, hc, h⟩ := h
    refine ab_wc 1 (c := 53) (as := [.ref 9, .long r9]) (pc := 55) (ll := [some (.ref 25), some (.int y1), some (.int y2)]) (st := []) (c1 := 0) (s1 := 0) (g := (ab_G mi7 ml8)) rfl trivial hc ?_
    refine ab_wk 1 (f' := (if r12 = 0 then 58 else 62, [some (.ref 25), some (.int y1), some (.int y2)], [], 0, 0, (ab_G mi10 ml11))) rfl ⟨trivial, trivial⟩ ?_
    refine ab_wi (fun c => ?_) (fun c => ?_)
    · have h := h.1 c
      exact ab_wr 3 rfl ⟨trivial, trivial, (Or.inr rfl)⟩ h
    · have h := h.2 c
      exact ab_wr 2 rfl ⟨trivial, (Or.inl rfl)⟩ h
