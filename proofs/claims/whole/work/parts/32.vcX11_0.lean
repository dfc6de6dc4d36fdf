theorem vc_X11_days_0 {call : Nat → List Value → ab_S → Option Value → ab_S → Prop} {ro : ab_E} {Q : Option Value → ab_S → Prop} (x1 : Int32) (mi : Nat → Nat → Int32) (ml : Nat → Nat → Int64)
    (h : ∃ (r3 : Int32) (mi1 : Nat → Nat → Int32) (ml2 : Nat → Nat → Int64), call 11 [.ref 1, .int x1] (ab_G mi ml) (some (.int r3)) (ab_G mi1 ml2) ∧ (Q (some (.int r3)) (ab_G (ab_ui mi1 0 12 1) ml2))) :
    ab_W call ro 0 0 (ab_lk2 pl_X11_days) Q (0, [some (.ref 0), some (.int x1), none], [], 0, 0, ab_G mi ml) := by
  obtain ⟨r3, mi1, ml2, hc, h⟩ := h
  refine ab_wc 4 (c := 11) (as := [.ref 1, .int x1]) (pc := 8) (ll := [some (.ref 0), some (.int x1), none]) (st := []) (c1 := 0) (s1 := 0) (g := (ab_G mi ml)) rfl ⟨trivial, trivial, trivial, trivial⟩ hc ?_
  exact ab_wr 6 rfl ⟨trivial, trivial, trivial, (Or.inr rfl), trivial, trivial⟩ h
theorem vc_X11_view_0 {call : Nat → List Value → ab_S → Option Value → ab_S → Prop} {ro : ab_E} {Q : Option Value → ab_S → Prop} (x1 : Int32) (mi : Nat → Nat → Int32) (ml : Nat → Nat → Int64)
    (h : ∃ (r3 : Int32) (mi1 : Nat → Nat → Int32) (ml2 : Nat → Nat → Int64), call 12 [.ref 1, .int x1] (ab_G mi ml) (some (.int r3)) (ab_G mi1 ml2) ∧ ((r3 = 0 ∨ r3 = 1) ∧ (Q (some (.int r3)) (ab_G (ab_ui mi1 0 12 1) ml2)))) :
    ab_W call ro 0 0 (ab_lk2 pl_X11_view) Q (0, [some (.ref 0), some (.int x1), none], [], 0, 0, ab_G mi ml) := by
  obtain ⟨r3, mi1, ml2, hc, h⟩ := h
  refine ab_wc 4 (c := 12) (as := [.ref 1, .int x1]) (pc := 8) (ll := [some (.ref 0), some (.int x1), none]) (st := []) (c1 := 0) (s1 := 0) (g := (ab_G mi ml)) rfl ⟨trivial, trivial, trivial, trivial⟩ hc ?_
  obtain ⟨p0, h⟩ := h
  exact ab_wr 6 rfl ⟨trivial, trivial, trivial, (Or.inr rfl), trivial, p0⟩ h
theorem vc_X11_feed_0 {call : Nat → List Value → ab_S → Option Value → ab_S → Prop} {ro : ab_E} {Q : Option Value → ab_S → Prop} (x1 : Int64) (x3 : Int64) (x5 : Int64) (mi : Nat → Nat → Int32) (ml : Nat → Nat → Int64)
    (h : ∃ (mi1 : Nat → Nat → Int32) (ml2 : Nat → Nat → Int64), call 81 [.ref 2, .long x1] (ab_G mi ml) none (ab_G mi1 ml2) ∧ (∃ (mi3 : Nat → Nat → Int32) (ml4 : Nat → Nat → Int64), call 81 [.ref 2, .long x3] (ab_G mi1 ml2) none (ab_G mi3 ml4) ∧ (∃ (mi5 : Nat → Nat → Int32) (ml6 : Nat → Nat → Int64), call 81 [.ref 2, .long x5] (ab_G mi3 ml4) none (ab_G mi5 ml6) ∧ (Q (some (.int (mi5 2 2))) (ab_G mi5 ml6))))) :
    ab_W call ro 0 0 (ab_lk2 pl_X11_feed) Q (0, [some (.ref 0), some (.long x1), none, some (.long x3), none, some (.long x5), none], [], 0, 0, ab_G mi ml) := by
  obtain ⟨mi1, ml2, hc, h⟩ := h
  refine ab_wc 4 (c := 81) (as := [.ref 2, .long x1]) (pc := 8) (ll := [some (.ref 0), some (.long x1), none, some (.long x3), none, some (.long x5), none]) (st := []) (c1 := 0) (s1 := 0) (g := (ab_G mi ml)) rfl ⟨trivial, trivial, trivial, trivial⟩ hc ?_
  obtain ⟨mi3, ml4, hc, h⟩ := h
  refine ab_wc 4 (c := 81) (as := [.ref 2, .long x3]) (pc := 16) (ll := [some (.ref 0), some (.long x1), none, some (.long x3), none, some (.long x5), none]) (st := []) (c1 := 0) (s1 := 0) (g := (ab_G mi1 ml2)) rfl ⟨trivial, trivial, trivial, trivial⟩ hc ?_
  obtain ⟨mi5, ml6, hc, h⟩ := h
  refine ab_wc 4 (c := 81) (as := [.ref 2, .long x5]) (pc := 25) (ll := [some (.ref 0), some (.long x1), none, some (.long x3), none, some (.long x5), none]) (st := []) (c1 := 0) (s1 := 0) (g := (ab_G mi3 ml4)) rfl ⟨trivial, trivial, trivial, trivial⟩ hc ?_
  exact ab_wr 4 rfl ⟨trivial, trivial, trivial, trivial⟩ h
theorem vc_X11_law_0 {call : Nat → List Value → ab_S → Option Value → ab_S → Prop} {ro : ab_E} {Q : Option Value → ab_S → Prop}  (mi : Nat → Nat → Int32) (ml : Nat → Nat → Int64)
    (h : ∃ (r3 : Int32) (mi1 : Nat → Nat → Int32) (ml2 : Nat → Nat → Int64), call 62 [.ref 5] (ab_G mi ml) (some (.int r3)) (ab_G mi1 ml2) ∧ (∃ (mi4 : Nat → Nat → Int32) (ml5 : Nat → Nat → Int64), call 83 [.ref 2] (ab_G mi1 ml2) none (ab_G mi4 ml5) ∧ (((r3 = 0) → (∃ (mi6 : Nat → Nat → Int32) (ml7 : Nat → Nat → Int64), call 47 [.ref 9, .ref 5] (ab_G mi4 ml5) none (ab_G mi6 ml7) ∧ (∃ (mi8 : Nat → Nat → Int32) (ml9 : Nat → Nat → Int64), call 1 [.ref 36] (ab_G (ab_ui (ab_ui mi6 12 5 0) 18 6 0) ml7) none (ab_G mi8 ml9) ∧ (Q (some (.int r3)) (ab_G (ab_ui mi8 0 12 1) ml9))))) ∧ (¬ (r3 = 0) → (Q (some (.int r3)) (ab_G mi4 ml5)))))) :
    ab_W call ro 0 0 (ab_lk2 pl_X11_law) Q (0, [some (.ref 0), none], [], 0, 0, ab_G mi ml) := by
  obtain ⟨r3, mi1, ml2, hc, h⟩ := h
  refine ab_wc 3 (c := 62) (as := [.ref 5]) (pc := 7) (ll := [some (.ref 0), none]) (st := []) (c1 := 0) (s1 := 0) (g := (ab_G mi ml)) rfl ⟨trivial, trivial, trivial⟩ hc ?_
  obtain ⟨mi4, ml5, hc, h⟩ := h
  refine ab_wc 4 (c := 83) (as := [.ref 2]) (pc := 15) (ll := [some (.ref 0), some (.int r3)]) (st := []) (c1 := 0) (s1 := 0) (g := (ab_G mi1 ml2)) rfl ⟨trivial, trivial, trivial, trivial⟩ hc ?_
  refine ab_wk 2 (f' := (if r3 = 0 then 19 else 58, [some (.ref 0), some (.int r3)], [], 0, 0, (ab_G mi4 ml5))) rfl ⟨trivial, trivial, trivial⟩ ?_
  refine ab_wi (fun c => ?_) (fun c => ?_)
  · have h := h.1 c
    obtain ⟨mi6, ml7, hc, h⟩ := h
    refine ab_wc 5 (c := 47) (as := [.ref 9, .ref 5]) (pc := 30) (ll := [some (.ref 0), some (.int r3)]) (st := []) (c1 := 0) (s1 := 0) (g := (ab_G mi4 ml5)) rfl ⟨trivial, trivial, trivial, trivial, trivial⟩ hc ?_
    obtain ⟨mi8, ml9, hc, h⟩ := h
    refine ab_wc 11 (c := 1) (as := [.ref 36]) (pc := 53) (ll := [some (.ref 0), some (.int r3)]) (st := []) (c1 := 0) (s1 := 0) (g := (ab_G (ab_ui (ab_ui mi6 12 5 0) 18 6 0) ml7)) rfl ⟨trivial, trivial, trivial, trivial, trivial, trivial, trivial, trivial, trivial, trivial, trivial⟩ hc ?_
    exact ab_wr 5 rfl ⟨trivial, trivial, (Or.inr rfl), trivial, trivial⟩ h
  · have h := h.2 c
    exact ab_wr 2 rfl ⟨trivial, trivial⟩ h
theorem vc_X11_wish_0 {call : Nat → List Value → ab_S → Option Value → ab_S → Prop} {ro : ab_E} {Q : Option Value → ab_S → Prop} (x1 : Int32) (mi : Nat → Nat → Int32) (ml : Nat → Nat → Int64)
    (h : ((x1 < 0) → (∃ (mi1 : Nat → Nat → Int32) (ml2 : Nat → Nat → Int64), call 83 [.ref 2] (ab_G mi ml) none (ab_G mi1 ml2) ∧ (Q (some (.int (-1))) (ab_G mi1 ml2)))) ∧ (¬ (x1 < 0) → (((x1 < 100) → ((((mi 12 5) < 30) → (∃ (r5 : Int32) (mi3 : Nat → Nat → Int32) (ml4 : Nat → Nat → Int64), call 63 [.ref 5, .int (mi 9 3)] (ab_G mi ml) (some (.int r5)) (ab_G mi3 ml4) ∧ (∃ (mi6 : Nat → Nat → Int32) (ml7 : Nat → Nat → Int64), call 83 [.ref 2] (ab_G mi3 ml4) none (ab_G mi6 ml7) ∧ (((r5 = 0) → (∃ (mi8 : Nat → Nat → Int32) (ml9 : Nat → Nat → Int64), call 46 [.ref 9, .int ((12 : Int32) + (mi6 12 5)), .long (ml7 5 2), .long (ml7 5 3), .int (mi6 5 4)] (ab_G mi6 ml7) none (ab_G mi8 ml9) ∧ (∃ (mi10 : Nat → Nat → Int32) (ml11 : Nat → Nat → Int64), call 96 [.ref 12, .int (mi8 5 5), .int (mi8 5 6), .int x1, .int (mi8 1 0)] (ab_G mi8 ml9) none (ab_G mi10 ml11) ∧ (Q (some (.int r5)) (ab_G (ab_ui mi10 0 12 1) ml11))))) ∧ (¬ (r5 = 0) → (Q (some (.int r5)) (ab_G mi6 ml7))))))) ∧ (¬ ((mi 12 5) < 30) → (∃ (mi12 : Nat → Nat → Int32) (ml13 : Nat → Nat → Int64), call 83 [.ref 2] (ab_G mi ml) none (ab_G mi12 ml13) ∧ (Q (some (.int (-1))) (ab_G mi12 ml13)))))) ∧ (¬ (x1 < 100) → (∃ (mi14 : Nat → Nat → Int32) (ml15 : Nat → Nat → Int64), call 83 [.ref 2] (ab_G mi ml) none (ab_G mi14 ml15) ∧ (Q (some (.int (-1))) (ab_G mi14 ml15))))))) :
    ab_W call ro 0 0 (ab_lk2 pl_X11_wish) Q (0, [some (.ref 0), some (.int x1), none], [], 0, 0, ab_G mi ml) := by
  refine ab_wk 2 (f' := (if x1 < 0 then 22 else 4, [some (.ref 0), some (.int x1), none], [], 0, 0, (ab_G mi ml))) rfl ⟨trivial, trivial, trivial⟩ ?_
  refine ab_wi (fun c => ?_) (fun c => ?_)
  · have h := h.1 c
    obtain ⟨mi1, ml2, hc, h⟩ := h
    refine ab_wc 3 (c := 83) (as := [.ref 2]) (pc := 29) (ll := [some (.ref 0), some (.int x1), none]) (st := []) (c1 := 0) (s1 := 0) (g := (ab_G mi ml)) rfl ⟨trivial, trivial, trivial⟩ hc ?_
    exact ab_wr 2 rfl ⟨trivial, trivial⟩ h
  · have h := h.2 c
    refine ab_wk 3 (f' := (if x1 < 100 then 10 else 22, [some (.ref 0), some (.int x1), none], [], 0, 0, (ab_G mi ml))) rfl ⟨trivial, trivial, trivial, trivial⟩ ?_
    refine ab_wi (fun c => ?_) (fun c => ?_)
    · have h := h.1 c
      refine ab_wk 5 (f' := (if (mi 12 5) < 30 then 31 else 22, [some (.ref 0), some (.int x1), none], [], 0, 0, (ab_G mi ml))) rfl ⟨trivial, trivial, trivial, trivial, trivial, trivial⟩ ?_
      refine ab_wi (fun c => ?_) (fun c => ?_)
      · have h := h.1 c
        obtain ⟨r5, mi3, ml4, hc, h⟩ := h
        refine ab_wc 6 (c := 63) (as := [.ref 5, .int (mi 9 3)]) (pc := 45) (ll := [some (.ref 0), some (.int x1), none]) (st := []) (c1 := 0) (s1 := 0) (g := (ab_G mi ml)) rfl ⟨trivial, trivial, trivial, trivial, trivial, trivial⟩ hc ?_
        obtain ⟨mi6, ml7, hc, h⟩ := h
        refine ab_wc 4 (c := 83) (as := [.ref 2]) (pc := 53) (ll := [some (.ref 0), some (.int x1), some (.int r5)]) (st := []) (c1 := 0) (s1 := 0) (g := (ab_G mi3 ml4)) rfl ⟨trivial, trivial, trivial, trivial⟩ hc ?_
        refine ab_wk 2 (f' := (if r5 = 0 then 57 else 129, [some (.ref 0), some (.int x1), some (.int r5)], [], 0, 0, (ab_G mi6 ml7))) rfl ⟨trivial, trivial, trivial⟩ ?_
        refine ab_wi (fun c => ?_) (fun c => ?_)
        · have h := h.1 c
          obtain ⟨mi8, ml9, hc, h⟩ := h
          refine ab_wc 17 (c := 46) (as := [.ref 9, .int ((12 : Int32) + (mi6 12 5)), .long (ml7 5 2), .long (ml7 5 3), .int (mi6 5 4)]) (pc := 95) (ll := [some (.ref 0), some (.int x1), some (.int r5)]) (st := []) (c1 := 0) (s1 := 0) (g := (ab_G mi6 ml7)) rfl ⟨trivial, trivial, trivial, trivial, trivial, trivial, trivial, trivial, trivial, trivial, trivial, trivial, trivial, trivial, trivial, trivial, trivial⟩ hc ?_
          obtain ⟨mi10, ml11, hc, h⟩ := h
          refine ab_wc 13 (c := 96) (as := [.ref 12, .int (mi8 5 5), .int (mi8 5 6), .int x1, .int (mi8 1 0)]) (pc := 124) (ll := [some (.ref 0), some (.int x1), some (.int r5)]) (st := []) (c1 := 0) (s1 := 0) (g := (ab_G mi8 ml9)) rfl ⟨trivial, trivial, trivial, trivial, trivial, trivial, trivial, trivial, trivial, trivial, trivial, trivial, trivial⟩ hc ?_
          exact ab_wr 5 rfl ⟨trivial, trivial, (Or.inr rfl), trivial, trivial⟩ h
        · have h := h.2 c
          exact ab_wr 2 rfl ⟨trivial, trivial⟩ h
      · have h := h.2 c
        obtain ⟨mi12, ml13, hc, h⟩ := h
        refine ab_wc 3 (c := 83) (as := [.ref 2]) (pc := 29) (ll := [some (.ref 0), some (.int x1), none]) (st := []) (c1 := 0) (s1 := 0) (g := (ab_G mi ml)) rfl ⟨trivial, trivial, trivial⟩ hc ?_
        exact ab_wr 2 rfl ⟨trivial, trivial⟩ h
    · have h := h.2 c
      obtain ⟨mi14, ml15, hc, h⟩ := h
      refine ab_wc 3 (c := 83) (as := [.ref 2]) (pc := 29) (ll := [some (.ref 0), some (.int x1), none]) (st := []) (c1 := 0) (s1 := 0) (g := (ab_G mi ml)) rfl ⟨trivial, trivial, trivial⟩ hc ?_
      exact ab_wr 2 rfl ⟨trivial, trivial⟩ h
theorem vc_X11_withdraw_0 {call : Nat → List Value → ab_S → Option Value → ab_S → Prop} {ro : ab_E} {Q : Option Value → ab_S → Prop} (x1 : Int32) (mi : Nat → Nat → Int32) (ml : Nat → Nat → Int64)
    (h : ∃ (r3 : Int32) (mi1 : Nat → Nat → Int32) (ml2 : Nat → Nat → Int64), call 135 [.ref 0, .int x1] (ab_G mi ml) (some (.int r3)) (ab_G mi1 ml2) ∧ (((r3 = 0) → (Q (some (.int 0)) (ab_G mi1 ml2))) ∧ (¬ (r3 = 0) → (vp_in x1 30 ∧ ((((mi1 17 (x1).toNatClampNeg) = (-1)) → (vp_in x1 30 ∧ (Q (some (.int 1)) (ab_G (ab_ui (ab_ui mi1 17 (x1).toNatClampNeg (mi1 1 0)) 0 12 1) ml2)))) ∧ (¬ ((mi1 17 (x1).toNatClampNeg) = (-1)) → (Q (some (.int 0)) (ab_G mi1 ml2)))))))) :
    ab_W call ro 0 0 (ab_lk2 pl_X11_withdraw) Q (0, [some (.ref 0), some (.int x1)], [], 0, 0, ab_G mi ml) := by
  obtain ⟨r3, mi1, ml2, hc, h⟩ := h
  refine ab_wc 3 (c := 135) (as := [.ref 0, .int x1]) (pc := 5) (ll := [some (.ref 0), some (.int x1)]) (st := []) (c1 := 0) (s1 := 0) (g := (ab_G mi ml)) rfl ⟨trivial, trivial, trivial⟩ hc ?_
  refine ab_wk 1 (f' := (if r3 = 0 then 21 else 8, [some (.ref 0), some (.int x1)], [], 0, 0, (ab_G mi1 ml2))) rfl ⟨trivial, trivial⟩ ?_
  refine ab_wi (fun c => ?_) (fun c => ?_)
  · have h := h.1 c
    exact ab_wr 2 rfl ⟨trivial, (Or.inl rfl)⟩ h
  · have h := h.2 c
    obtain ⟨p0, h⟩ := h
    refine ab_wk 7 (f' := (if (mi1 17 (x1).toNatClampNeg) = (-1) then 23 else 21, [some (.ref 0), some (.int x1)], [], 0, 0, (ab_G mi1 ml2))) rfl ⟨trivial, trivial, trivial, trivial, p0, trivial, trivial, trivial⟩ ?_
    refine ab_wi (fun c => ?_) (fun c => ?_)
    · have h := h.1 c
      obtain ⟨p0, h⟩ := h
      exact ab_wr 13 rfl ⟨trivial, trivial, trivial, trivial, trivial, trivial, trivial, p0, trivial, trivial, (Or.inr rfl), trivial, (Or.inr rfl)⟩ h
    · have h := h.2 c
      exact ab_wr 2 rfl ⟨trivial, (Or.inl rfl)⟩ h
theorem vc_X11_house_0 {call : Nat → List Value → ab_S → Option Value → ab_S → Prop} {ro : ab_E} {Q : Option Value → ab_S → Prop} (x1 : Int32) (x2 : Int32) (mi : Nat → Nat → Int32) (ml : Nat → Nat → Int64)
    (h : ((x1 < 0) → (Q (some (.int 0)) (ab_G mi ml))) ∧ (¬ (x1 < 0) → (((x1 < 100) → (∃ (r3 : Int32) (mi1 : Nat → Nat → Int32) (ml2 : Nat → Nat → Int64), call 137 [.int x2] (ab_G mi ml) (some (.int r3)) (ab_G mi1 ml2) ∧ (((r3 = 0) → (Q (some (.int 0)) (ab_G mi1 ml2))) ∧ (¬ (r3 = 0) → (vp_in x1 100 ∧ (Q (some (.int 1)) (ab_G (ab_ui mi1 24 (x1).toNatClampNeg x2) ml2))))))) ∧ (¬ (x1 < 100) → (Q (some (.int 0)) (ab_G mi ml)))))) :
    ab_W call ro 0 0 (ab_lk2 pl_X11_house) Q (0, [some (.ref 0), some (.int x1), some (.int x2)], [], 0, 0, ab_G mi ml) := by
  refine ab_wk 2 (f' := (if x1 < 0 then 17 else 4, [some (.ref 0), some (.int x1), some (.int x2)], [], 0, 0, (ab_G mi ml))) rfl ⟨trivial, trivial, trivial⟩ ?_
  refine ab_wi (fun c => ?_) (fun c => ?_)
  · have h := h.1 c
    exact ab_wr 2 rfl ⟨trivial, (Or.inl rfl)⟩ h
  · have h := h.2 c
    refine ab_wk 3 (f' := (if x1 < 100 then 10 else 17, [some (.ref 0), some (.int x1), some (.int x2)], [], 0, 0, (ab_G mi ml))) rfl ⟨trivial, trivial, trivial, trivial⟩ ?_
    refine ab_wi (fun c => ?_) (fun c => ?_)
    · have h := h.1 c
      obtain ⟨r3, mi1, ml2, hc, h⟩ := h
      refine ab_wc 2 (c := 137) (as := [.int x2]) (pc := 14) (ll := [some (.ref 0), some (.int x1), some (.int x2)]) (st := []) (c1 := 0) (s1 := 0) (g := (ab_G mi ml)) rfl ⟨trivial, trivial⟩ hc ?_
      refine ab_wk 1 (f' := (if r3 = 0 then 17 else 19, [some (.ref 0), some (.int x1), some (.int x2)], [], 0, 0, (ab_G mi1 ml2))) rfl ⟨trivial, trivial⟩ ?_
      refine ab_wi (fun c => ?_) (fun c => ?_)
      · have h := h.1 c
        exact ab_wr 2 rfl ⟨trivial, (Or.inl rfl)⟩ h
      · have h := h.2 c
        obtain ⟨p0, h⟩ := h
        exact ab_wr 7 rfl ⟨trivial, trivial, trivial, trivial, p0, trivial, (Or.inr rfl)⟩ h
    · have h := h.2 c
      exact ab_wr 2 rfl ⟨trivial, (Or.inl rfl)⟩ h
theorem vc_X11_allowed_0 {call : Nat → List Value → ab_S → Option Value → ab_S → Prop} {ro : ab_E} {Q : Option Value → ab_S → Prop} (x1 : Int32) (mi : Nat → Nat → Int32) (ml : Nat → Nat → Int64)
    (h : ((x1 < 0) → (Q (some (.int (-1))) (ab_G mi ml))) ∧ (¬ (x1 < 0) → (((x1 < 128) → (∃ (r3 : Int64) (mi1 : Nat → Nat → Int32) (ml2 : Nat → Nat → Int64), call 48 [.ref 9] (ab_G mi ml) (some (.long r3)) (ab_G mi1 ml2) ∧ (∃ (r6 : Int32) (mi4 : Nat → Nat → Int32) (ml5 : Nat → Nat → Int64), call 52 [.ref 9, .long r3, .int x1] (ab_G mi1 ml2) (some (.int r6)) (ab_G mi4 ml5) ∧ (((r6 = 0) → (Q (some (.int 0)) (ab_G mi4 ml5))) ∧ (¬ (r6 = 0) → (Q (some (.int 1)) (ab_G mi4 ml5))))))) ∧ (¬ (x1 < 128) → (Q (some (.int (-1))) (ab_G mi ml)))))) :
    ab_W call ro 0 0 (ab_lk2 pl_X11_allowed) Q (0, [some (.ref 0), some (.int x1)], [], 0, 0, ab_G mi ml) := by
  refine ab_wk 2 (f' := (if x1 < 0 then 11 else 4, [some (.ref 0), some (.int x1)], [], 0, 0, (ab_G mi ml))) rfl ⟨trivial, trivial, trivial⟩ ?_
  refine ab_wi (fun c => ?_) (fun c => ?_)
  · have h := h.1 c
    exact ab_wr 2 rfl ⟨trivial, trivial⟩ h
  · have h := h.2 c
    refine ab_wk 3 (f' := (if x1 < 128 then 13 else 11, [some (.ref 0), some (.int x1)], [], 0, 0, (ab_G mi ml))) rfl ⟨trivial, trivial, trivial, trivial⟩ ?_
    refine ab_wi (fun c => ?_) (fun c => ?_)
    · have h := h.1 c
      obtain ⟨r3, mi1, ml2, hc, h⟩ := h
      refine ab_wc 5 (c := 48) (as := [.ref 9]) (pc := 24) (ll := [some (.ref 0), some (.int x1)]) (st := [.ref 9]) (c1 := 0) (s1 := 0) (g := (ab_G mi ml)) rfl ⟨trivial, trivial, trivial, trivial, trivial⟩ hc ?_
      obtain ⟨r6, mi4, ml5, hc, h⟩ := h
      refine ab_wc 2 (c := 52) (as := [.ref 9, .long r3, .int x1]) (pc := 28) (ll := [some (.ref 0), some (.int x1)]) (st := []) (c1 := 0) (s1 := 0) (g := (ab_G mi1 ml2)) rfl ⟨trivial, trivial⟩ hc ?_
      refine ab_wk 1 (f' := (if r6 = 0 then 35 else 31, [some (.ref 0), some (.int x1)], [], 0, 0, (ab_G mi4 ml5))) rfl ⟨trivial, trivial⟩ ?_
      refine ab_wi (fun c => ?_) (fun c => ?_)
      · have h := h.1 c
        exact ab_wr 2 rfl ⟨trivial, trivial⟩ h
      · have h := h.2 c
        exact ab_wr 3 rfl ⟨trivial, trivial, trivial⟩ h
    · have h := h.2 c
      exact ab_wr 2 rfl ⟨trivial, trivial⟩ h
theorem vc_X11_rule_0 {call : Nat → List Value → ab_S → Option Value → ab_S → Prop} {ro : ab_E} {Q : Option Value → ab_S → Prop} (x1 : Int32) (mi : Nat → Nat → Int32) (ml : Nat → Nat → Int64)
    (h : (((x1 = 0) → (Q (some (.int (mi 9 3))) (ab_G mi ml))) ∧ (¬ (x1 = 0) → (((x1 = 1) → (∃ (r3 : Int64) (mi1 : Nat → Nat → Int32) (ml2 : Nat → Nat → Int64), call 48 [.ref 9] (ab_G mi ml) (some (.long r3)) (ab_G mi1 ml2) ∧ (∃ (r6 : Int32) (mi4 : Nat → Nat → Int32) (ml5 : Nat → Nat → Int64), call 51 [.ref 9, .long r3] (ab_G mi1 ml2) (some (.int r6)) (ab_G mi4 ml5) ∧ (Q (some (.int r6)) (ab_G mi4 ml5))))) ∧ (¬ (x1 = 1) → (((x1 = 2) → (∃ (r9 : Int64) (mi7 : Nat → Nat → Int32) (ml8 : Nat → Nat → Int64), call 48 [.ref 9] (ab_G mi ml) (some (.long r9)) (ab_G mi7 ml8) ∧ (∃ (r12 : Int32) (mi10 : Nat → Nat → Int32) (ml11 : Nat → Nat → Int64), call 53 [.ref 9, .long r9] (ab_G mi7 ml8) (some (.int r12)) (ab_G mi10 ml11) ∧ (Q (some (.int r12)) (ab_G mi10 ml11))))) ∧ (¬ (x1 = 2) → (((x1 = 3) → (∃ (r15 : Int64) (mi13 : Nat → Nat → Int32) (ml14 : Nat → Nat → Int64), call 48 [.ref 9] (ab_G mi ml) (some (.long r15)) (ab_G mi13 ml14) ∧ (∃ (r18 : Int32) (mi16 : Nat → Nat → Int32) (ml17 : Nat → Nat → Int64), call 53 [.ref 9, .long r15] (ab_G mi13 ml14) (some (.int r18)) (ab_G mi16 ml17) ∧ (((r18 = 3) → (∃ (r21 : Int64) (mi19 : Nat → Nat → Int32) (ml20 : Nat → Nat → Int64), call 48 [.ref 9] (ab_G mi16 ml17) (some (.long r21)) (ab_G mi19 ml20) ∧ (∃ (r24 : Int32) (mi22 : Nat → Nat → Int32) (ml23 : Nat → Nat → Int64), call 54 [.ref 9, .long r21] (ab_G mi19 ml20) (some (.int r24)) (ab_G mi22 ml23) ∧ (Q (some (.int r24)) (ab_G mi22 ml23))))) ∧ (¬ (r18 = 3) → (Q (some (.int (-1))) (ab_G mi16 ml17))))))) ∧ (¬ (x1 = 3) → (Q (some (.int (-1))) (ab_G mi ml))))))))))) :
    ab_W call ro 0 0 (ab_lk2 pl_X11_rule) Q (0, [some (.ref 0), some (.int x1)], [], 0, 0, ab_G mi ml) := by
  refine ab_wk 2 (f' := (ab_sw x1 [(0, 32), (1, 40), (2, 55), (3, 70)] 107, [some (.ref 0), some (.int x1)], [], 0, 0, (ab_G mi ml))) rfl ⟨trivial, trivial, trivial⟩ ?_
  refine ab_wi (fun c => ?_) (fun c => ?_)
  · have h := h.1 c
    exact ab_wr 4 rfl ⟨trivial, trivial, trivial, trivial⟩ h
  · have h := h.2 c
    refine ab_wi (fun c => ?_) (fun c => ?_)
    · have h := h.1 c
      obtain ⟨r3, mi1, ml2, hc, h⟩ := h
      refine ab_wc 5 (c := 48) (as := [.ref 9]) (pc := 51) (ll := [some (.ref 0), some (.int x1)]) (st := [.ref 9]) (c1 := 0) (s1 := 0) (g := (ab_G mi ml)) rfl ⟨trivial, trivial, trivial, trivial, trivial⟩ hc ?_
      obtain ⟨r6, mi4, ml5, hc, h⟩ := h
      refine ab_wc 1 (c := 51) (as := [.ref 9, .long r3]) (pc := 54) (ll := [some (.ref 0), some (.int x1)]) (st := []) (c1 := 0) (s1 := 0) (g := (ab_G mi1 ml2)) rfl trivial hc ?_
      exact ab_wr 1 rfl trivial h
    · have h := h.2 c
      refine ab_wi (fun c => ?_) (fun c => ?_)
      · have h := h.1 c
        obtain ⟨r9, mi7, ml8, hc, h⟩ := h
        refine ab_wc 5 (c := 48) (as := [.ref 9]) (pc := 66) (ll := [some (.ref 0), some (.int x1)]) (st := [.ref 9]) (c1 := 0) (s1 := 0) (g := (ab_G mi ml)) rfl ⟨trivial, trivial, trivial, trivial, trivial⟩ hc ?_
        obtain ⟨r12, mi10, ml11, hc, h⟩ := h
        refine ab_wc 1 (c := 53) (as := [.ref 9, .long r9]) (pc := 69) (ll := [some (.ref 0), some (.int x1)]) (st := []) (c1 := 0) (s1 := 0) (g := (ab_G mi7 ml8)) rfl trivial hc ?_
        exact ab_wr 1 rfl trivial h
      · have h := h.2 c
        refine ab_wi (fun c => ?_) (fun c => ?_)
        · have h := h.1 c
          obtain ⟨r15, mi13, ml14, hc, h⟩ := h
          refine ab_wc 5 (c := 48) (as := [.ref 9]) (pc := 81) (ll := [some (.ref 0), some (.int x1)]) (st := [.ref 9]) (c1 := 0) (s1 := 0) (g := (ab_G mi ml)) rfl ⟨trivial, trivial, trivial, trivial, trivial⟩ hc ?_
          obtain ⟨r18, mi16, ml17, hc, h⟩ := h
          refine ab_wc 1 (c := 53) (as := [.ref 9, .long r15]) (pc := 84) (ll := [some (.ref 0), some (.int x1)]) (st := []) (c1 := 0) (s1 := 0) (g := (ab_G mi13 ml14)) rfl trivial hc ?_
          refine ab_wk 2 (f' := (if r18 = 3 then 88 else 105, [some (.ref 0), some (.int x1)], [], 0, 0, (ab_G mi16 ml17))) rfl ⟨trivial, trivial, trivial⟩ ?_
          refine ab_wi (fun c => ?_) (fun c => ?_)
          · have h := h.1 c
            obtain ⟨r21, mi19, ml20, hc, h⟩ := h
            refine ab_wc 5 (c := 48) (as := [.ref 9]) (pc := 99) (ll := [some (.ref 0), some (.int x1)]) (st := [.ref 9]) (c1 := 0) (s1 := 0) (g := (ab_G mi16 ml17)) rfl ⟨trivial, trivial, trivial, trivial, trivial⟩ hc ?_
            obtain ⟨r24, mi22, ml23, hc, h⟩ := h
            refine ab_wc 1 (c := 54) (as := [.ref 9, .long r21]) (pc := 102) (ll := [some (.ref 0), some (.int x1)]) (st := []) (c1 := 0) (s1 := 0) (g := (ab_G mi19 ml20)) rfl trivial hc ?_
            exact ab_wr 2 rfl ⟨trivial, trivial⟩ h
          · have h := h.2 c
            exact ab_wr 2 rfl ⟨trivial, trivial⟩ h
        · have h := h.2 c
          exact ab_wr 2 rfl ⟨trivial, trivial⟩ h
theorem vc_X11_line_0 {call : Nat → List Value → ab_S → Option Value → ab_S → Prop} {ro : ab_E} {Q : Option Value → ab_S → Prop} (x1 : Int32) (x2 : Int32) (mi : Nat → Nat → Int32) (ml : Nat → Nat → Int64)
    (h : ∃ (r3 : Int32) (mi1 : Nat → Nat → Int32) (ml2 : Nat → Nat → Int64), call 134 [.ref 0, .int x1] (ab_G mi ml) (some (.int r3)) (ab_G mi1 ml2) ∧ (((r3 = 0) → (Q (some (.int (-1))) (ab_G mi1 ml2))) ∧ (¬ (r3 = 0) → (((x2 = 0) → (∃ (r6 : Int32) (mi4 : Nat → Nat → Int32) (ml5 : Nat → Nat → Int64), call 49 [.ref 9, .int x1] (ab_G mi1 ml2) (some (.int r6)) (ab_G mi4 ml5) ∧ (((r6 = 0) → (Q (some (.int 0)) (ab_G mi4 ml5))) ∧ (¬ (r6 = 0) → (Q (some (.int 1)) (ab_G mi4 ml5)))))) ∧ (¬ (x2 = 0) → (((x2 = 1) → (vp_in x1 42 ∧ (∃ (r9 : Int32) (mi7 : Nat → Nat → Int32) (ml8 : Nat → Nat → Int64), call 243 [.long (ml2 10 (x1).toNatClampNeg)] (ab_G mi1 ml2) (some (.int r9)) (ab_G mi7 ml8) ∧ (vp_in x1 42 ∧ (∃ (r12 : Int32) (mi10 : Nat → Nat → Int32) (ml11 : Nat → Nat → Int64), call 243 [.long (ml8 11 (x1).toNatClampNeg)] (ab_G mi7 ml8) (some (.int r12)) (ab_G mi10 ml11) ∧ (Q (some (.int (r9 + r12))) (ab_G mi10 ml11))))))) ∧ (¬ (x2 = 1) → (Q (some (.int (-1))) (ab_G mi1 ml2))))))))) :
    ab_W call ro 0 0 (ab_lk2 pl_X11_line) Q (0, [some (.ref 0), some (.int x1), some (.int x2)], [], 0, 0, ab_G mi ml) := by
  obtain ⟨r3, mi1, ml2, hc, h⟩ := h
  refine ab_wc 3 (c := 134) (as := [.ref 0, .int x1]) (pc := 5) (ll := [some (.ref 0), some (.int x1), some (.int x2)]) (st := []) (c1 := 0) (s1 := 0) (g := (ab_G mi ml)) rfl ⟨trivial, trivial, trivial⟩ hc ?_
  refine ab_wk 1 (f' := (if r3 = 0 then 8 else 10, [some (.ref 0), some (.int x1), some (.int x2)], [], 0, 0, (ab_G mi1 ml2))) rfl ⟨trivial, trivial⟩ ?_
  refine ab_wi (fun c => ?_) (fun c => ?_)
  · have h := h.1 c
    exact ab_wr 2 rfl ⟨trivial, trivial⟩ h
  · have h := h.2 c
    refine ab_wk 2 (f' := (ab_sw x2 [(0, 36), (1, 53)] 79, [some (.ref 0), some (.int x1), some (.int x2)], [], 0, 0, (ab_G mi1 ml2))) rfl ⟨trivial, trivial, trivial⟩ ?_
    refine ab_wi (fun c => ?_) (fun c => ?_)
    · have h := h.1 c
      obtain ⟨r6, mi4, ml5, hc, h⟩ := h
      refine ab_wc 4 (c := 49) (as := [.ref 9, .int x1]) (pc := 44) (ll := [some (.ref 0), some (.int x1), some (.int x2)]) (st := []) (c1 := 0) (s1 := 0) (g := (ab_G mi1 ml2)) rfl ⟨trivial, trivial, trivial, trivial⟩ hc ?_
      refine ab_wk 1 (f' := (if r6 = 0 then 51 else 47, [some (.ref 0), some (.int x1), some (.int x2)], [], 0, 0, (ab_G mi4 ml5))) rfl ⟨trivial, trivial⟩ ?_
      refine ab_wi (fun c => ?_) (fun c => ?_)
      · have h := h.1 c
        exact ab_wr 2 rfl ⟨trivial, trivial⟩ h
      · have h := h.2 c
        exact ab_wr 3 rfl ⟨trivial, trivial, trivial⟩ h
    · have h := h.2 c
      refine ab_wi (fun c => ?_) (fun c => ?_)
      · have h := h.1 c
        obtain ⟨p0, h⟩ := h
        obtain ⟨r9, mi7, ml8, hc, h⟩ := h
        refine ab_wc 6 (c := 243) (as := [.long (ml2 10 (x1).toNatClampNeg)]) (pc := 65) (ll := [some (.ref 0), some (.int x1), some (.int x2)]) (st := []) (c1 := 0) (s1 := 0) (g := (ab_G mi1 ml2)) rfl ⟨trivial, trivial, trivial, trivial, p0, trivial⟩ hc ?_
        obtain ⟨p0, h⟩ := h
        obtain ⟨r12, mi10, ml11, hc, h⟩ := h
        refine ab_wc 6 (c := 243) (as := [.long (ml8 11 (x1).toNatClampNeg)]) (pc := 77) (ll := [some (.ref 0), some (.int x1), some (.int x2)]) (st := [.int r9]) (c1 := 0) (s1 := 0) (g := (ab_G mi7 ml8)) rfl ⟨trivial, trivial, trivial, trivial, p0, trivial⟩ hc ?_
        exact ab_wr 2 rfl ⟨trivial, trivial⟩ h
      · have h := h.2 c
        exact ab_wr 2 rfl ⟨trivial, trivial⟩ h
theorem vc_X11_look_0 {call : Nat → List Value → ab_S → Option Value → ab_S → Prop} {ro : ab_E} {Q : Option Value → ab_S → Prop} (x1 : Int32) (x2 : Int32) (mi : Nat → Nat → Int32) (ml : Nat → Nat → Int64)
    (h : ∃ (r3 : Int32) (mi1 : Nat → Nat → Int32) (ml2 : Nat → Nat → Int64), call 135 [.ref 0, .int x1] (ab_G mi ml) (some (.int r3)) (ab_G mi1 ml2) ∧ (((r3 = 0) → (Q (some (.int (-1))) (ab_G mi1 ml2))) ∧ (¬ (r3 = 0) → (((x2 = 0) → (∃ (mi4 : Nat → Nat → Int32) (ml5 : Nat → Nat → Int64), call 138 [.ref 0] (ab_G mi1 ml2) none (ab_G mi4 ml5) ∧ (vp_in x1 30 ∧ (Q (some (.int (mi4 26 (x1).toNatClampNeg))) (ab_G mi4 ml5))))) ∧ (¬ (x2 = 0) → (((x2 = 1) → (vp_in x1 30 ∧ (Q (some (.int (mi1 13 (x1).toNatClampNeg))) (ab_G mi1 ml2)))) ∧ (¬ (x2 = 1) → (((x2 = 2) → (vp_in x1 30 ∧ (Q (some (.int (mi1 14 (x1).toNatClampNeg))) (ab_G mi1 ml2)))) ∧ (¬ (x2 = 2) → (((x2 = 3) → (vp_in x1 30 ∧ (Q (some (.int (mi1 15 (x1).toNatClampNeg))) (ab_G mi1 ml2)))) ∧ (¬ (x2 = 3) → (Q (some (.int (-1))) (ab_G mi1 ml2))))))))))))) :
    ab_W call ro 0 0 (ab_lk2 pl_X11_look) Q (0, [some (.ref 0), some (.int x1), some (.int x2)], [], 0, 0, ab_G mi ml) := by
  obtain ⟨r3, mi1, ml2, hc, h⟩ := h
  refine ab_wc 3 (c := 135) (as := [.ref 0, .int x1]) (pc := 5) (ll := [some (.ref 0), some (.int x1), some (.int x2)]) (st := []) (c1 := 0) (s1 := 0) (g := (ab_G mi ml)) rfl ⟨trivial, trivial, trivial⟩ hc ?_
  refine ab_wk 1 (f' := (if r3 = 0 then 8 else 10, [some (.ref 0), some (.int x1), some (.int x2)], [], 0, 0, (ab_G mi1 ml2))) rfl ⟨trivial, trivial⟩ ?_
  refine ab_wi (fun c => ?_) (fun c => ?_)
  · have h := h.1 c
    exact ab_wr 2 rfl ⟨trivial, trivial⟩ h
  · have h := h.2 c
    refine ab_wk 2 (f' := (ab_sw x2 [(0, 40), (1, 54), (2, 64), (3, 74)] 84, [some (.ref 0), some (.int x1), some (.int x2)], [], 0, 0, (ab_G mi1 ml2))) rfl ⟨trivial, trivial, trivial⟩ ?_
    refine ab_wi (fun c => ?_) (fun c => ?_)
    · have h := h.1 c
      obtain ⟨mi4, ml5, hc, h⟩ := h
      refine ab_wc 2 (c := 138) (as := [.ref 0]) (pc := 44) (ll := [some (.ref 0), some (.int x1), some (.int x2)]) (st := []) (c1 := 0) (s1 := 0) (g := (ab_G mi1 ml2)) rfl ⟨trivial, trivial⟩ hc ?_
      obtain ⟨p0, h⟩ := h
      exact ab_wr 6 rfl ⟨trivial, trivial, trivial, trivial, p0, trivial⟩ h
    · have h := h.2 c
      refine ab_wi (fun c => ?_) (fun c => ?_)
      · have h := h.1 c
        obtain ⟨p0, h⟩ := h
        exact ab_wr 6 rfl ⟨trivial, trivial, trivial, trivial, p0, trivial⟩ h
      · have h := h.2 c
        refine ab_wi (fun c => ?_) (fun c => ?_)
        · have h := h.1 c
          obtain ⟨p0, h⟩ := h
          exact ab_wr 6 rfl ⟨trivial, trivial, trivial, trivial, p0, trivial⟩ h
        · have h := h.2 c
          refine ab_wi (fun c => ?_) (fun c => ?_)
          · have h := h.1 c
            obtain ⟨p0, h⟩ := h
            exact ab_wr 6 rfl ⟨trivial, trivial, trivial, trivial, p0, trivial⟩ h
          · have h := h.2 c
            exact ab_wr 2 rfl ⟨trivial, trivial⟩ h
theorem vc_X11_ground_0 {call : Nat → List Value → ab_S → Option Value → ab_S → Prop} {ro : ab_E} {Q : Option Value → ab_S → Prop} (x1 : Int32) (mi : Nat → Nat → Int32) (ml : Nat → Nat → Int64)
    (h : ∃ (r3 : Int32) (mi1 : Nat → Nat → Int32) (ml2 : Nat → Nat → Int64), call 135 [.ref 0, .int x1] (ab_G mi ml) (some (.int r3)) (ab_G mi1 ml2) ∧ (((r3 = 0) → (∃ (mi4 : Nat → Nat → Int32) (ml5 : Nat → Nat → Int64), call 83 [.ref 2] (ab_G mi1 ml2) none (ab_G mi4 ml5) ∧ (Q (some (.int (-1))) (ab_G mi4 ml5)))) ∧ (¬ (r3 = 0) → ((((mi1 18 6) < 20) → (∃ (r8 : Int32) (mi6 : Nat → Nat → Int32) (ml7 : Nat → Nat → Int64), call 64 [.ref 5] (ab_G mi1 ml2) (some (.int r8)) (ab_G mi6 ml7) ∧ (∃ (mi9 : Nat → Nat → Int32) (ml10 : Nat → Nat → Int64), call 83 [.ref 2] (ab_G mi6 ml7) none (ab_G mi9 ml10) ∧ (((r8 = 0) → (∃ (mi11 : Nat → Nat → Int32) (ml12 : Nat → Nat → Int64), call 16 [.ref 18, .int x1, .long (ml10 5 2), .long (ml10 5 3)] (ab_G mi9 ml10) none (ab_G mi11 ml12) ∧ (Q (some (.int r8)) (ab_G mi11 ml12)))) ∧ (¬ (r8 = 0) → (Q (some (.int r8)) (ab_G mi9 ml10))))))) ∧ (¬ ((mi1 18 6) < 20) → (∃ (mi13 : Nat → Nat → Int32) (ml14 : Nat → Nat → Int64), call 83 [.ref 2] (ab_G mi1 ml2) none (ab_G mi13 ml14) ∧ (Q (some (.int (-1))) (ab_G mi13 ml14)))))))) :
    ab_W call ro 0 0 (ab_lk2 pl_X11_ground) Q (0, [some (.ref 0), some (.int x1), none], [], 0, 0, ab_G mi ml) := by
  obtain ⟨r3, mi1, ml2, hc, h⟩ := h
  refine ab_wc 3 (c := 135) (as := [.ref 0, .int x1]) (pc := 5) (ll := [some (.ref 0), some (.int x1), none]) (st := []) (c1 := 0) (s1 := 0) (g := (ab_G mi ml)) rfl ⟨trivial, trivial, trivial⟩ hc ?_
  refine ab_wk 1 (f' := (if r3 = 0 then 20 else 8, [some (.ref 0), some (.int x1), none], [], 0, 0, (ab_G mi1 ml2))) rfl ⟨trivial, trivial⟩ ?_
  refine ab_wi (fun c => ?_) (fun c => ?_)
  · have h := h.1 c
    obtain ⟨mi4, ml5, hc, h⟩ := h
    refine ab_wc 3 (c := 83) (as := [.ref 2]) (pc := 27) (ll := [some (.ref 0), some (.int x1), none]) (st := []) (c1 := 0) (s1 := 0) (g := (ab_G mi1 ml2)) rfl ⟨trivial, trivial, trivial⟩ hc ?_
    exact ab_wr 2 rfl ⟨trivial, trivial⟩ h
  · have h := h.2 c
    refine ab_wk 5 (f' := (if (mi1 18 6) < 20 then 29 else 20, [some (.ref 0), some (.int x1), none], [], 0, 0, (ab_G mi1 ml2))) rfl ⟨trivial, trivial, trivial, trivial, trivial, trivial⟩ ?_
    refine ab_wi (fun c => ?_) (fun c => ?_)
    · have h := h.1 c
      obtain ⟨r8, mi6, ml7, hc, h⟩ := h
      refine ab_wc 3 (c := 64) (as := [.ref 5]) (pc := 36) (ll := [some (.ref 0), some (.int x1), none]) (st := []) (c1 := 0) (s1 := 0) (g := (ab_G mi1 ml2)) rfl ⟨trivial, trivial, trivial⟩ hc ?_
      obtain ⟨mi9, ml10, hc, h⟩ := h
      refine ab_wc 4 (c := 83) (as := [.ref 2]) (pc := 44) (ll := [some (.ref 0), some (.int x1), some (.int r8)]) (st := []) (c1 := 0) (s1 := 0) (g := (ab_G mi6 ml7)) rfl ⟨trivial, trivial, trivial, trivial⟩ hc ?_
      refine ab_wk 2 (f' := (if r8 = 0 then 48 else 70, [some (.ref 0), some (.int x1), some (.int r8)], [], 0, 0, (ab_G mi9 ml10))) rfl ⟨trivial, trivial, trivial⟩ ?_
      refine ab_wi (fun c => ?_) (fun c => ?_)
      · have h := h.1 c
        obtain ⟨mi11, ml12, hc, h⟩ := h
        refine ab_wc 10 (c := 16) (as := [.ref 18, .int x1, .long (ml10 5 2), .long (ml10 5 3)]) (pc := 70) (ll := [some (.ref 0), some (.int x1), some (.int r8)]) (st := []) (c1 := 0) (s1 := 0) (g := (ab_G mi9 ml10)) rfl ⟨trivial, trivial, trivial, trivial, trivial, trivial, trivial, trivial, trivial, trivial⟩ hc ?_
        exact ab_wr 2 rfl ⟨trivial, trivial⟩ h
      · have h := h.2 c
        exact ab_wr 2 rfl ⟨trivial, trivial⟩ h
    · have h := h.2 c
      obtain ⟨mi13, ml14, hc, h⟩ := h
      refine ab_wc 3 (c := 83) (as := [.ref 2]) (pc := 27) (ll := [some (.ref 0), some (.int x1), none]) (st := []) (c1 := 0) (s1 := 0) (g := (ab_G mi1 ml2)) rfl ⟨trivial, trivial, trivial⟩ hc ?_
      exact ab_wr 2 rfl ⟨trivial, trivial⟩ h
theorem vc_X11_held_0 {call : Nat → List Value → ab_S → Option Value → ab_S → Prop} {ro : ab_E} {Q : Option Value → ab_S → Prop} (x1 : Int32) (x2 : Int32) (mi : Nat → Nat → Int32) (ml : Nat → Nat → Int64)
    (h : ((x1 < 0) → (Q (some (.int (-1))) (ab_G mi ml))) ∧ (¬ (x1 < 0) → (((x1 < (mi 18 6)) → (((x2 = 0) → (∃ (r3 : Int32) (mi1 : Nat → Nat → Int32) (ml2 : Nat → Nat → Int64), call 13 [.ref 1] (ab_G mi ml) (some (.int r3)) (ab_G mi1 ml2) ∧ (∃ (r6 : Int32) (mi4 : Nat → Nat → Int32) (ml5 : Nat → Nat → Int64), call 19 [.ref 18, .int x1, .int r3] (ab_G mi1 ml2) (some (.int r6)) (ab_G mi4 ml5) ∧ (((r6 = 0) → (Q (some (.int 0)) (ab_G mi4 ml5))) ∧ (¬ (r6 = 0) → (Q (some (.int 1)) (ab_G mi4 ml5))))))) ∧ (¬ (x2 = 0) → (((x2 = 1) → (∃ (r9 : Int32) (mi7 : Nat → Nat → Int32) (ml8 : Nat → Nat → Int64), call 13 [.ref 1] (ab_G mi ml) (some (.int r9)) (ab_G mi7 ml8) ∧ (∃ (r12 : Int32) (mi10 : Nat → Nat → Int32) (ml11 : Nat → Nat → Int64), call 18 [.ref 18, .int x1, .int r9] (ab_G mi7 ml8) (some (.int r12)) (ab_G mi10 ml11) ∧ (Q (some (.int r12)) (ab_G mi10 ml11))))) ∧ (¬ (x2 = 1) → (((x2 = 2) → (vp_in x1 20 ∧ (Q (some (.int (mi 21 (x1).toNatClampNeg))) (ab_G mi ml)))) ∧ (¬ (x2 = 2) → (Q (some (.int (-1))) (ab_G mi ml))))))))) ∧ (¬ (x1 < (mi 18 6)) → (Q (some (.int (-1))) (ab_G mi ml)))))) :
    ab_W call ro 0 0 (ab_lk2 pl_X11_held) Q (0, [some (.ref 0), some (.int x1), some (.int x2)], [], 0, 0, ab_G mi ml) := by
  refine ab_wk 2 (f' := (if x1 < 0 then 15 else 4, [some (.ref 0), some (.int x1), some (.int x2)], [], 0, 0, (ab_G mi ml))) rfl ⟨trivial, trivial, trivial⟩ ?_
  refine ab_wi (fun c => ?_) (fun c => ?_)
  · have h := h.1 c
    exact ab_wr 2 rfl ⟨trivial, trivial⟩ h
  · have h := h.2 c
    refine ab_wk 5 (f' := (if x1 < (mi 18 6) then 17 else 15, [some (.ref 0), some (.int x1), some (.int x2)], [], 0, 0, (ab_G mi ml))) rfl ⟨trivial, trivial, trivial, trivial, trivial, trivial⟩ ?_
    refine ab_wi (fun c => ?_) (fun c => ?_)
    · have h := h.1 c
      refine ab_wk 2 (f' := (ab_sw x2 [(0, 44), (1, 68), (2, 84)] 94, [some (.ref 0), some (.int x1), some (.int x2)], [], 0, 0, (ab_G mi ml))) rfl ⟨trivial, trivial, trivial⟩ ?_
      refine ab_wi (fun c => ?_) (fun c => ?_)
      · have h := h.1 c
        obtain ⟨r3, mi1, ml2, hc, h⟩ := h
        refine ab_wc 6 (c := 13) (as := [.ref 1]) (pc := 56) (ll := [some (.ref 0), some (.int x1), some (.int x2)]) (st := [.int x1, .ref 18]) (c1 := 0) (s1 := 0) (g := (ab_G mi ml)) rfl ⟨trivial, trivial, trivial, trivial, trivial, trivial⟩ hc ?_
        obtain ⟨r6, mi4, ml5, hc, h⟩ := h
        refine ab_wc 1 (c := 19) (as := [.ref 18, .int x1, .int r3]) (pc := 59) (ll := [some (.ref 0), some (.int x1), some (.int x2)]) (st := []) (c1 := 0) (s1 := 0) (g := (ab_G mi1 ml2)) rfl trivial hc ?_
        refine ab_wk 1 (f' := (if r6 = 0 then 66 else 62, [some (.ref 0), some (.int x1), some (.int x2)], [], 0, 0, (ab_G mi4 ml5))) rfl ⟨trivial, trivial⟩ ?_
        refine ab_wi (fun c => ?_) (fun c => ?_)
        · have h := h.1 c
          exact ab_wr 2 rfl ⟨trivial, trivial⟩ h
        · have h := h.2 c
          exact ab_wr 3 rfl ⟨trivial, trivial, trivial⟩ h
      · have h := h.2 c
        refine ab_wi (fun c => ?_) (fun c => ?_)
        · have h := h.1 c
          obtain ⟨r9, mi7, ml8, hc, h⟩ := h
          refine ab_wc 6 (c := 13) (as := [.ref 1]) (pc := 80) (ll := [some (.ref 0), some (.int x1), some (.int x2)]) (st := [.int x1, .ref 18]) (c1 := 0) (s1 := 0) (g := (ab_G mi ml)) rfl ⟨trivial, trivial, trivial, trivial, trivial, trivial⟩ hc ?_
          obtain ⟨r12, mi10, ml11, hc, h⟩ := h
          refine ab_wc 1 (c := 18) (as := [.ref 18, .int x1, .int r9]) (pc := 83) (ll := [some (.ref 0), some (.int x1), some (.int x2)]) (st := []) (c1 := 0) (s1 := 0) (g := (ab_G mi7 ml8)) rfl trivial hc ?_
          exact ab_wr 1 rfl trivial h
        · have h := h.2 c
          refine ab_wi (fun c => ?_) (fun c => ?_)
          · have h := h.1 c
            obtain ⟨p0, h⟩ := h
            exact ab_wr 6 rfl ⟨trivial, trivial, trivial, trivial, p0, trivial⟩ h
          · have h := h.2 c
            exact ab_wr 2 rfl ⟨trivial, trivial⟩ h
    · have h := h.2 c
      exact ab_wr 2 rfl ⟨trivial, trivial⟩ h
theorem vc_X11_group_0 {call : Nat → List Value → ab_S → Option Value → ab_S → Prop} {ro : ab_E} {Q : Option Value → ab_S → Prop} (x1 : Int32) (x2 : Int32) (mi : Nat → Nat → Int32) (ml : Nat → Nat → Int64)
    (h : ∃ (mi1 : Nat → Nat → Int32) (ml2 : Nat → Nat → Int64), call 138 [.ref 0] (ab_G mi ml) none (ab_G mi1 ml2) ∧ (∃ (r5 : Int32) (mi3 : Nat → Nat → Int32) (ml4 : Nat → Nat → Int64), call 136 [.ref 0, .int x1] (ab_G mi1 ml2) (some (.int r5)) (ab_G mi3 ml4) ∧ (((r5 = 0) → (Q (some (.int (-1))) (ab_G mi3 ml4))) ∧ (¬ (r5 = 0) → (((x2 = 0) → (∃ (r8 : Int32) (mi6 : Nat → Nat → Int32) (ml7 : Nat → Nat → Int64), call 13 [.ref 1] (ab_G mi3 ml4) (some (.int r8)) (ab_G mi6 ml7) ∧ (∃ (r11 : Int32) (mi9 : Nat → Nat → Int32) (ml10 : Nat → Nat → Int64), call 90 [.ref 33, .int x1, .int x2, .int r8] (ab_G mi6 ml7) (some (.int r11)) (ab_G mi9 ml10) ∧ (Q (some (.int r11)) (ab_G mi9 ml10))))) ∧ (¬ (x2 = 0) → (((x2 = 1) → (∃ (r14 : Int32) (mi12 : Nat → Nat → Int32) (ml13 : Nat → Nat → Int64), call 13 [.ref 1] (ab_G mi3 ml4) (some (.int r14)) (ab_G mi12 ml13) ∧ (∃ (r17 : Int32) (mi15 : Nat → Nat → Int32) (ml16 : Nat → Nat → Int64), call 90 [.ref 33, .int x1, .int x2, .int r14] (ab_G mi12 ml13) (some (.int r17)) (ab_G mi15 ml16) ∧ (Q (some (.int r17)) (ab_G mi15 ml16))))) ∧ (¬ (x2 = 1) → (((x2 = 2) → (∃ (r20 : Int32) (mi18 : Nat → Nat → Int32) (ml19 : Nat → Nat → Int64), call 13 [.ref 1] (ab_G mi3 ml4) (some (.int r20)) (ab_G mi18 ml19) ∧ (∃ (r23 : Int32) (mi21 : Nat → Nat → Int32) (ml22 : Nat → Nat → Int64), call 90 [.ref 33, .int x1, .int x2, .int r20] (ab_G mi18 ml19) (some (.int r23)) (ab_G mi21 ml22) ∧ (Q (some (.int r23)) (ab_G mi21 ml22))))) ∧ (¬ (x2 = 2) → (((x2 = 3) → (∃ (r26 : Int32) (mi24 : Nat → Nat → Int32) (ml25 : Nat → Nat → Int64), call 13 [.ref 1] (ab_G mi3 ml4) (some (.int r26)) (ab_G mi24 ml25) ∧ (∃ (r29 : Int32) (mi27 : Nat → Nat → Int32) (ml28 : Nat → Nat → Int64), call 90 [.ref 33, .int x1, .int x2, .int r26] (ab_G mi24 ml25) (some (.int r29)) (ab_G mi27 ml28) ∧ (Q (some (.int r29)) (ab_G mi27 ml28))))) ∧ (¬ (x2 = 3) → (((x2 = 4) → (vp_in x1 30 ∧ (Q (some (.int (mi3 27 (x1).toNatClampNeg))) (ab_G mi3 ml4)))) ∧ (¬ (x2 = 4) → (((x2 = 5) → (∃ (r32 : Int32) (mi30 : Nat → Nat → Int32) (ml31 : Nat → Nat → Int64), call 31 [.ref 25, .int x1] (ab_G mi3 ml4) (some (.int r32)) (ab_G mi30 ml31) ∧ (Q (some (.int r32)) (ab_G mi30 ml31)))) ∧ (¬ (x2 = 5) → (Q (some (.int (-1))) (ab_G mi3 ml4)))))))))))))))))) :
    ab_W call ro 0 0 (ab_lk2 pl_X11_group) Q (0, [some (.ref 0), some (.int x1), some (.int x2)], [], 0, 0, ab_G mi ml) := by
  obtain ⟨mi1, ml2, hc, h⟩ := h
  refine ab_wc 2 (c := 138) (as := [.ref 0]) (pc := 4) (ll := [some (.ref 0), some (.int x1), some (.int x2)]) (st := []) (c1 := 0) (s1 := 0) (g := (ab_G mi ml)) rfl ⟨trivial, trivial⟩ hc ?_
  obtain ⟨r5, mi3, ml4, hc, h⟩ := h
  refine ab_wc 3 (c := 136) (as := [.ref 0, .int x1]) (pc := 9) (ll := [some (.ref 0), some (.int x1), some (.int x2)]) (st := []) (c1 := 0) (s1 := 0) (g := (ab_G mi1 ml2)) rfl ⟨trivial, trivial, trivial⟩ hc ?_
  refine ab_wk 1 (f' := (if r5 = 0 then 12 else 14, [some (.ref 0), some (.int x1), some (.int x2)], [], 0, 0, (ab_G mi3 ml4))) rfl ⟨trivial, trivial⟩ ?_
  refine ab_wi (fun c => ?_) (fun c => ?_)
  · have h := h.1 c
    exact ab_wr 2 rfl ⟨trivial, trivial⟩ h
  · have h := h.2 c
    refine ab_wk 2 (f' := (ab_sw x2 [(0, 52), (1, 52), (2, 52), (3, 52), (4, 69), (5, 79)] 88, [some (.ref 0), some (.int x1), some (.int x2)], [], 0, 0, (ab_G mi3 ml4))) rfl ⟨trivial, trivial, trivial⟩ ?_
    refine ab_wi (fun c => ?_) (fun c => ?_)
    · have h := h.1 c
      obtain ⟨r8, mi6, ml7, hc, h⟩ := h
      refine ab_wc 7 (c := 13) (as := [.ref 1]) (pc := 65) (ll := [some (.ref 0), some (.int x1), some (.int x2)]) (st := [.int x2, .int x1, .ref 33]) (c1 := 0) (s1 := 0) (g := (ab_G mi3 ml4)) rfl ⟨trivial, trivial, trivial, trivial, trivial, trivial, trivial⟩ hc ?_
      obtain ⟨r11, mi9, ml10, hc, h⟩ := h
      refine ab_wc 1 (c := 90) (as := [.ref 33, .int x1, .int x2, .int r8]) (pc := 68) (ll := [some (.ref 0), some (.int x1), some (.int x2)]) (st := []) (c1 := 0) (s1 := 0) (g := (ab_G mi6 ml7)) rfl trivial hc ?_
      exact ab_wr 1 rfl trivial h
    · have h := h.2 c
      refine ab_wi (fun c => ?_) (fun c => ?_)
      · have h := h.1 c
        obtain ⟨r14, mi12, ml13, hc, h⟩ := h
        refine ab_wc 7 (c := 13) (as := [.ref 1]) (pc := 65) (ll := [some (.ref 0), some (.int x1), some (.int x2)]) (st := [.int x2, .int x1, .ref 33]) (c1 := 0) (s1 := 0) (g := (ab_G mi3 ml4)) rfl ⟨trivial, trivial, trivial, trivial, trivial, trivial, trivial⟩ hc ?_
        obtain ⟨r17, mi15, ml16, hc, h⟩ := h
        refine ab_wc 1 (c := 90) (as := [.ref 33, .int x1, .int x2, .int r14]) (pc := 68) (ll := [some (.ref 0), some (.int x1), some (.int x2)]) (st := []) (c1 := 0) (s1 := 0) (g := (ab_G mi12 ml13)) rfl trivial hc ?_
        exact ab_wr 1 rfl trivial h
      · have h := h.2 c
        refine ab_wi (fun c => ?_) (fun c => ?_)
        · have h := h.1 c
          obtain ⟨r20, mi18, ml19, hc, h⟩ := h
          refine ab_wc 7 (c := 13) (as := [.ref 1]) (pc := 65) (ll := [some (.ref 0), some (.int x1), some (.int x2)]) (st := [.int x2, .int x1, .ref 33]) (c1 := 0) (s1 := 0) (g := (ab_G mi3 ml4)) rfl ⟨trivial, trivial, trivial, trivial, trivial, trivial, trivial⟩ hc ?_
          obtain ⟨r23, mi21, ml22, hc, h⟩ := h
          refine ab_wc 1 (c := 90) (as := [.ref 33, .int x1, .int x2, .int r20]) (pc := 68) (ll := [some (.ref 0), some (.int x1), some (.int x2)]) (st := []) (c1 := 0) (s1 := 0) (g := (ab_G mi18 ml19)) rfl trivial hc ?_
          exact ab_wr 1 rfl trivial h
        · have h := h.2 c
          refine ab_wi (fun c => ?_) (fun c => ?_)
          · have h := h.1 c
            obtain ⟨r26, mi24, ml25, hc, h⟩ := h
            refine ab_wc 7 (c := 13) (as := [.ref 1]) (pc := 65) (ll := [some (.ref 0), some (.int x1), some (.int x2)]) (st := [.int x2, .int x1, .ref 33]) (c1 := 0) (s1 := 0) (g := (ab_G mi3 ml4)) rfl ⟨trivial, trivial, trivial, trivial, trivial, trivial, trivial⟩ hc ?_
            obtain ⟨r29, mi27, ml28, hc, h⟩ := h
            refine ab_wc 1 (c := 90) (as := [.ref 33, .int x1, .int x2, .int r26]) (pc := 68) (ll := [some (.ref 0), some (.int x1), some (.int x2)]) (st := []) (c1 := 0) (s1 := 0) (g := (ab_G mi24 ml25)) rfl trivial hc ?_
            exact ab_wr 1 rfl trivial h
          · have h := h.2 c
            refine ab_wi (fun c => ?_) (fun c => ?_)
            · have h := h.1 c
              obtain ⟨p0, h⟩ := h
              exact ab_wr 6 rfl ⟨trivial, trivial, trivial, trivial, p0, trivial⟩ h
            · have h := h.2 c
              refine ab_wi (fun c => ?_) (fun c => ?_)
              · have h := h.1 c
                obtain ⟨r32, mi30, ml31, hc, h⟩ := h
                refine ab_wc 4 (c := 31) (as := [.ref 25, .int x1]) (pc := 87) (ll := [some (.ref 0), some (.int x1), some (.int x2)]) (st := []) (c1 := 0) (s1 := 0) (g := (ab_G mi3 ml4)) rfl ⟨trivial, trivial, trivial, trivial⟩ hc ?_
                exact ab_wr 1 rfl trivial h
              · have h := h.2 c
                exact ab_wr 2 rfl ⟨trivial, trivial⟩ h
theorem vc_X11_clash_0 {call : Nat → List Value → ab_S → Option Value → ab_S → Prop} {ro : ab_E} {Q : Option Value → ab_S → Prop} (x1 : Int32) (x2 : Int32) (mi : Nat → Nat → Int32) (ml : Nat → Nat → Int64)
    (h : ∃ (mi1 : Nat → Nat → Int32) (ml2 : Nat → Nat → Int64), call 138 [.ref 0] (ab_G mi ml) none (ab_G mi1 ml2) ∧ (∃ (r5 : Int32) (mi3 : Nat → Nat → Int32) (ml4 : Nat → Nat → Int64), call 136 [.ref 0, .int x1] (ab_G mi1 ml2) (some (.int r5)) (ab_G mi3 ml4) ∧ (((r5 = 0) → (Q (some (.int (-1))) (ab_G mi3 ml4))) ∧ (¬ (r5 = 0) → (∃ (r8 : Int32) (mi6 : Nat → Nat → Int32) (ml7 : Nat → Nat → Int64), call 136 [.ref 0, .int x2] (ab_G mi3 ml4) (some (.int r8)) (ab_G mi6 ml7) ∧ (((r8 = 0) → (Q (some (.int (-1))) (ab_G mi6 ml7))) ∧ (¬ (r8 = 0) → (((x1 = x2) → (Q (some (.int (-1))) (ab_G mi6 ml7))) ∧ (¬ (x1 = x2) → (∃ (r11 : Int32) (mi9 : Nat → Nat → Int32) (ml10 : Nat → Nat → Int64), call 33 [.ref 25, .int x1, .int x2] (ab_G mi6 ml7) (some (.int r11)) (ab_G mi9 ml10) ∧ (Q (some (.int r11)) (ab_G mi9 ml10)))))))))))) :
    ab_W call ro 0 0 (ab_lk2 pl_X11_clash) Q (0, [some (.ref 0), some (.int x1), some (.int x2)], [], 0, 0, ab_G mi ml) := by
  obtain ⟨mi1, ml2, hc, h⟩ := h
  refine ab_wc 2 (c := 138) (as := [.ref 0]) (pc := 4) (ll := [some (.ref 0), some (.int x1), some (.int x2)]) (st := []) (c1 := 0) (s1 := 0) (g := (ab_G mi ml)) rfl ⟨trivial, trivial⟩ hc ?_
  obtain ⟨r5, mi3, ml4, hc, h⟩ := h
  refine ab_wc 3 (c := 136) (as := [.ref 0, .int x1]) (pc := 9) (ll := [some (.ref 0), some (.int x1), some (.int x2)]) (st := []) (c1 := 0) (s1 := 0) (g := (ab_G mi1 ml2)) rfl ⟨trivial, trivial, trivial⟩ hc ?_
  refine ab_wk 1 (f' := (if r5 = 0 then 25 else 12, [some (.ref 0), some (.int x1), some (.int x2)], [], 0, 0, (ab_G mi3 ml4))) rfl ⟨trivial, trivial⟩ ?_
  refine ab_wi (fun c => ?_) (fun c => ?_)
  · have h := h.1 c
    exact ab_wr 2 rfl ⟨trivial, trivial⟩ h
  · have h := h.2 c
    obtain ⟨r8, mi6, ml7, hc, h⟩ := h
    refine ab_wc 3 (c := 136) (as := [.ref 0, .int x2]) (pc := 17) (ll := [some (.ref 0), some (.int x1), some (.int x2)]) (st := []) (c1 := 0) (s1 := 0) (g := (ab_G mi3 ml4)) rfl ⟨trivial, trivial, trivial⟩ hc ?_
    refine ab_wk 1 (f' := (if r8 = 0 then 25 else 20, [some (.ref 0), some (.int x1), some (.int x2)], [], 0, 0, (ab_G mi6 ml7))) rfl ⟨trivial, trivial⟩ ?_
    refine ab_wi (fun c => ?_) (fun c => ?_)
    · have h := h.1 c
      exact ab_wr 2 rfl ⟨trivial, trivial⟩ h
    · have h := h.2 c
      refine ab_wk 3 (f' := (if x1 = x2 then 25 else 27, [some (.ref 0), some (.int x1), some (.int x2)], [], 0, 0, (ab_G mi6 ml7))) rfl ⟨trivial, trivial, trivial, trivial⟩ ?_
      refine ab_wi (fun c => ?_) (fun c => ?_)
      · have h := h.1 c
        exact ab_wr 2 rfl ⟨trivial, trivial⟩ h
      · have h := h.2 c
        obtain ⟨r11, mi9, ml10, hc, h⟩ := h
        refine ab_wc 5 (c := 33) (as := [.ref 25, .int x1, .int x2]) (pc := 36) (ll := [some (.ref 0), some (.int x1), some (.int x2)]) (st := []) (c1 := 0) (s1 := 0) (g := (ab_G mi6 ml7)) rfl ⟨trivial, trivial, trivial, trivial, trivial⟩ hc ?_
        exact ab_wr 1 rfl trivial h
theorem vc_X11_together_0 {call : Nat → List Value → ab_S → Option Value → ab_S → Prop} {ro : ab_E} {Q : Option Value → ab_S → Prop} (x1 : Int32) (mi : Nat → Nat → Int32) (ml : Nat → Nat → Int64)
    (h : ∃ (mi1 : Nat → Nat → Int32) (ml2 : Nat → Nat → Int64), call 138 [.ref 0] (ab_G mi ml) none (ab_G mi1 ml2) ∧ (((x1 < 0) → (Q (some (.int (-1))) (ab_G mi1 ml2))) ∧ (¬ (x1 < 0) → ((((x1 >>> ((mi1 25 4) &&& 31)) = 0) → (∃ (r5 : Int32) (mi3 : Nat → Nat → Int32) (ml4 : Nat → Nat → Int64), call 34 [.ref 25, .int x1] (ab_G mi1 ml2) (some (.int r5)) (ab_G mi3 ml4) ∧ (((r5 = 0) → (Q (some (.int 0)) (ab_G mi3 ml4))) ∧ (¬ (r5 = 0) → (Q (some (.int 1)) (ab_G mi3 ml4)))))) ∧ (¬ ((x1 >>> ((mi1 25 4) &&& 31)) = 0) → (Q (some (.int (-1))) (ab_G mi1 ml2))))))) :
    ab_W call ro 0 0 (ab_lk2 pl_X11_together) Q (0, [some (.ref 0), some (.int x1)], [], 0, 0, ab_G mi ml) := by
  obtain ⟨mi1, ml2, hc, h⟩ := h
  refine ab_wc 2 (c := 138) (as := [.ref 0]) (pc := 4) (ll := [some (.ref 0), some (.int x1)]) (st := []) (c1 := 0) (s1 := 0) (g := (ab_G mi ml)) rfl ⟨trivial, trivial⟩ hc ?_
  refine ab_wk 2 (f' := (if x1 < 0 then 20 else 8, [some (.ref 0), some (.int x1)], [], 0, 0, (ab_G mi1 ml2))) rfl ⟨trivial, trivial, trivial⟩ ?_
  refine ab_wi (fun c => ?_) (fun c => ?_)
  · have h := h.1 c
    exact ab_wr 2 rfl ⟨trivial, trivial⟩ h
  · have h := h.2 c
    refine ab_wk 6 (f' := (if (x1 >>> ((mi1 25 4) &&& 31)) = 0 then 22 else 20, [some (.ref 0), some (.int x1)], [], 0, 0, (ab_G mi1 ml2))) rfl ⟨trivial, trivial, trivial, trivial, trivial, trivial, trivial⟩ ?_
    refine ab_wi (fun c => ?_) (fun c => ?_)
    · have h := h.1 c
      obtain ⟨r5, mi3, ml4, hc, h⟩ := h
      refine ab_wc 4 (c := 34) (as := [.ref 25, .int x1]) (pc := 30) (ll := [some (.ref 0), some (.int x1)]) (st := []) (c1 := 0) (s1 := 0) (g := (ab_G mi1 ml2)) rfl ⟨trivial, trivial, trivial, trivial⟩ hc ?_
      refine ab_wk 1 (f' := (if r5 = 0 then 37 else 33, [some (.ref 0), some (.int x1)], [], 0, 0, (ab_G mi3 ml4))) rfl ⟨trivial, trivial⟩ ?_
      refine ab_wi (fun c => ?_) (fun c => ?_)
      · have h := h.1 c
        exact ab_wr 2 rfl ⟨trivial, trivial⟩ h
      · have h := h.2 c
        exact ab_wr 3 rfl ⟨trivial, trivial, trivial⟩ h
    · have h := h.2 c
      exact ab_wr 2 rfl ⟨trivial, trivial⟩ h
theorem vc_X11_least_0 {call : Nat → List Value → ab_S → Option Value → ab_S → Prop} {ro : ab_E} {Q : Option Value → ab_S → Prop} (x1 : Int32) (mi : Nat → Nat → Int32) (ml : Nat → Nat → Int64)
    (h : ∃ (mi1 : Nat → Nat → Int32) (ml2 : Nat → Nat → Int64), call 138 [.ref 0] (ab_G mi ml) none (ab_G mi1 ml2) ∧ (((x1 < 1) → (Q (some (.int (-1))) (ab_G mi1 ml2))) ∧ (¬ (x1 < 1) → (((3 < x1) → (Q (some (.int (-1))) (ab_G mi1 ml2))) ∧ (¬ (3 < x1) → (∃ (mi3 : Nat → Nat → Int32) (ml4 : Nat → Nat → Int64), call 37 [.ref 38, .int x1, .int (-1)] (ab_G mi1 ml2) none (ab_G mi3 ml4) ∧ (Q (some (.int (mi3 38 4))) (ab_G mi3 ml4)))))))) :
    ab_W call ro 0 0 (ab_lk2 pl_X11_least) Q (0, [some (.ref 0), some (.int x1)], [], 0, 0, ab_G mi ml) := by
  obtain ⟨mi1, ml2, hc, h⟩ := h
  refine ab_wc 2 (c := 138) (as := [.ref 0]) (pc := 4) (ll := [some (.ref 0), some (.int x1)]) (st := []) (c1 := 0) (s1 := 0) (g := (ab_G mi ml)) rfl ⟨trivial, trivial⟩ hc ?_
  refine ab_wk 3 (f' := (if x1 < 1 then 14 else 9, [some (.ref 0), some (.int x1)], [], 0, 0, (ab_G mi1 ml2))) rfl ⟨trivial, trivial, trivial, trivial⟩ ?_
  refine ab_wi (fun c => ?_) (fun c => ?_)
  · have h := h.1 c
    exact ab_wr 2 rfl ⟨trivial, trivial⟩ h
  · have h := h.2 c
    refine ab_wk 3 (f' := (if 3 < x1 then 14 else 16, [some (.ref 0), some (.int x1)], [], 0, 0, (ab_G mi1 ml2))) rfl ⟨trivial, trivial, trivial, trivial⟩ ?_
    refine ab_wi (fun c => ?_) (fun c => ?_)
    · have h := h.1 c
      exact ab_wr 2 rfl ⟨trivial, trivial⟩ h
    · have h := h.2 c
      obtain ⟨mi3, ml4, hc, h⟩ := h
      refine ab_wc 5 (c := 37) (as := [.ref 38, .int x1, .int (-1)]) (pc := 25) (ll := [some (.ref 0), some (.int x1)]) (st := []) (c1 := 0) (s1 := 0) (g := (ab_G mi1 ml2)) rfl ⟨trivial, trivial, trivial, trivial, trivial⟩ hc ?_
      exact ab_wr 4 rfl ⟨trivial, trivial, trivial, trivial⟩ h
theorem vc_X11_leastSet_0 {call : Nat → List Value → ab_S → Option Value → ab_S → Prop} {ro : ab_E} {Q : Option Value → ab_S → Prop} (x1 : Int32) (x2 : Int32) (mi : Nat → Nat → Int32) (ml : Nat → Nat → Int64)
    (h : ∃ (mi1 : Nat → Nat → Int32) (ml2 : Nat → Nat → Int64), call 138 [.ref 0] (ab_G mi ml) none (ab_G mi1 ml2) ∧ (((x1 < 1) → (Q (some (.int (-1))) (ab_G mi1 ml2))) ∧ (¬ (x1 < 1) → (((3 < x1) → (Q (some (.int (-1))) (ab_G mi1 ml2))) ∧ (¬ (3 < x1) → (((x2 < 0) → (Q (some (.int (-1))) (ab_G mi1 ml2))) ∧ (¬ (x2 < 0) → (∃ (mi3 : Nat → Nat → Int32) (ml4 : Nat → Nat → Int64), call 37 [.ref 38, .int x1, .int x2] (ab_G mi1 ml2) none (ab_G mi3 ml4) ∧ (Q (some (.int (mi3 38 5))) (ab_G mi3 ml4)))))))))) :
    ab_W call ro 0 0 (ab_lk2 pl_X11_leastSet) Q (0, [some (.ref 0), some (.int x1), some (.int x2)], [], 0, 0, ab_G mi ml) := by
  obtain ⟨mi1, ml2, hc, h⟩ := h
  refine ab_wc 2 (c := 138) (as := [.ref 0]) (pc := 4) (ll := [some (.ref 0), some (.int x1), some (.int x2)]) (st := []) (c1 := 0) (s1 := 0) (g := (ab_G mi ml)) rfl ⟨trivial, trivial⟩ hc ?_
  refine ab_wk 3 (f' := (if x1 < 1 then 18 else 9, [some (.ref 0), some (.int x1), some (.int x2)], [], 0, 0, (ab_G mi1 ml2))) rfl ⟨trivial, trivial, trivial, trivial⟩ ?_
  refine ab_wi (fun c => ?_) (fun c => ?_)
  · have h := h.1 c
    exact ab_wr 2 rfl ⟨trivial, trivial⟩ h
  · have h := h.2 c
    refine ab_wk 3 (f' := (if 3 < x1 then 18 else 14, [some (.ref 0), some (.int x1), some (.int x2)], [], 0, 0, (ab_G mi1 ml2))) rfl ⟨trivial, trivial, trivial, trivial⟩ ?_
    refine ab_wi (fun c => ?_) (fun c => ?_)
    · have h := h.1 c
      exact ab_wr 2 rfl ⟨trivial, trivial⟩ h
    · have h := h.2 c
      refine ab_wk 2 (f' := (if x2 < 0 then 18 else 20, [some (.ref 0), some (.int x1), some (.int x2)], [], 0, 0, (ab_G mi1 ml2))) rfl ⟨trivial, trivial, trivial⟩ ?_
      refine ab_wi (fun c => ?_) (fun c => ?_)
      · have h := h.1 c
        exact ab_wr 2 rfl ⟨trivial, trivial⟩ h
      · have h := h.2 c
        obtain ⟨mi3, ml4, hc, h⟩ := h
        refine ab_wc 5 (c := 37) (as := [.ref 38, .int x1, .int x2]) (pc := 29) (ll := [some (.ref 0), some (.int x1), some (.int x2)]) (st := []) (c1 := 0) (s1 := 0) (g := (ab_G mi1 ml2)) rfl ⟨trivial, trivial, trivial, trivial, trivial⟩ hc ?_
        exact ab_wr 4 rfl ⟨trivial, trivial, trivial, trivial⟩ h
theorem vc_X11_draft_0 {call : Nat → List Value → ab_S → Option Value → ab_S → Prop} {ro : ab_E} {Q : Option Value → ab_S → Prop} (x1 : Int32) (x2 : Int32) (mi : Nat → Nat → Int32) (ml : Nat → Nat → Int64)
    (h : ∃ (r3 : Int32) (mi1 : Nat → Nat → Int32) (ml2 : Nat → Nat → Int64), call 139 [.ref 0, .int x1] (ab_G mi ml) (some (.int r3)) (ab_G mi1 ml2) ∧ (((r3 = (-1)) → (Q (some (.int (-1))) (ab_G mi1 ml2))) ∧ (¬ (r3 = (-1)) → (((x2 = 0) → (Q (some (.int r3)) (ab_G mi1 ml2))) ∧ (¬ (x2 = 0) → (((x2 = 1) → (Q (some (.int (mi1 34 4))) (ab_G mi1 ml2))) ∧ (¬ (x2 = 1) → (((x2 = 2) → (∃ (r6 : Int64) (mi4 : Nat → Nat → Int32) (ml5 : Nat → Nat → Int64), call 32 [.ref 25, .int r3] (ab_G mi1 ml2) (some (.long r6)) (ab_G mi4 ml5) ∧ (∃ (r9 : Int32) (mi7 : Nat → Nat → Int32) (ml8 : Nat → Nat → Int64), call 243 [.long r6] (ab_G mi4 ml5) (some (.int r9)) (ab_G mi7 ml8) ∧ (Q (some (.int r9)) (ab_G mi7 ml8))))) ∧ (¬ (x2 = 2) → (((x2 = 3) → (∃ (r12 : Int64) (mi10 : Nat → Nat → Int32) (ml11 : Nat → Nat → Int64), call 32 [.ref 25, .int r3] (ab_G mi1 ml2) (some (.long r12)) (ab_G mi10 ml11) ∧ (∃ (r15 : Int32) (mi13 : Nat → Nat → Int32) (ml14 : Nat → Nat → Int64), call 51 [.ref 9, .long r12] (ab_G mi10 ml11) (some (.int r15)) (ab_G mi13 ml14) ∧ (Q (some (.int r15)) (ab_G mi13 ml14))))) ∧ (¬ (x2 = 3) → (Q (some (.int (-1))) (ab_G mi1 ml2))))))))))))) :
    ab_W call ro 0 0 (ab_lk2 pl_X11_draft) Q (0, [some (.ref 0), some (.int x1), some (.int x2), none], [], 0, 0, ab_G mi ml) := by
  obtain ⟨r3, mi1, ml2, hc, h⟩ := h
  refine ab_wc 3 (c := 139) (as := [.ref 0, .int x1]) (pc := 5) (ll := [some (.ref 0), some (.int x1), some (.int x2), none]) (st := []) (c1 := 0) (s1 := 0) (g := (ab_G mi ml)) rfl ⟨trivial, trivial, trivial⟩ hc ?_
  refine ab_wk 4 (f' := (if r3 = (-1) then 11 else 13, [some (.ref 0), some (.int x1), some (.int x2), some (.int r3)], [], 0, 0, (ab_G mi1 ml2))) rfl ⟨trivial, trivial, trivial, trivial, trivial⟩ ?_
  refine ab_wi (fun c => ?_) (fun c => ?_)
  · have h := h.1 c
    exact ab_wr 2 rfl ⟨trivial, trivial⟩ h
  · have h := h.2 c
    refine ab_wk 2 (f' := (ab_sw x2 [(0, 44), (1, 46), (2, 54), (3, 66)] 82, [some (.ref 0), some (.int x1), some (.int x2), some (.int r3)], [], 0, 0, (ab_G mi1 ml2))) rfl ⟨trivial, trivial, trivial⟩ ?_
    refine ab_wi (fun c => ?_) (fun c => ?_)
    · have h := h.1 c
      exact ab_wr 2 rfl ⟨trivial, trivial⟩ h
    · have h := h.2 c
      refine ab_wi (fun c => ?_) (fun c => ?_)
      · have h := h.1 c
        exact ab_wr 4 rfl ⟨trivial, trivial, trivial, trivial⟩ h
      · have h := h.2 c
        refine ab_wi (fun c => ?_) (fun c => ?_)
        · have h := h.1 c
          obtain ⟨r6, mi4, ml5, hc, h⟩ := h
          refine ab_wc 4 (c := 32) (as := [.ref 25, .int r3]) (pc := 62) (ll := [some (.ref 0), some (.int x1), some (.int x2), some (.int r3)]) (st := []) (c1 := 0) (s1 := 0) (g := (ab_G mi1 ml2)) rfl ⟨trivial, trivial, trivial, trivial⟩ hc ?_
          obtain ⟨r9, mi7, ml8, hc, h⟩ := h
          refine ab_wc 1 (c := 243) (as := [.long r6]) (pc := 65) (ll := [some (.ref 0), some (.int x1), some (.int x2), some (.int r3)]) (st := []) (c1 := 0) (s1 := 0) (g := (ab_G mi4 ml5)) rfl trivial hc ?_
          exact ab_wr 1 rfl trivial h
        · have h := h.2 c
          refine ab_wi (fun c => ?_) (fun c => ?_)
          · have h := h.1 c
            obtain ⟨r12, mi10, ml11, hc, h⟩ := h
            refine ab_wc 6 (c := 32) (as := [.ref 25, .int r3]) (pc := 78) (ll := [some (.ref 0), some (.int x1), some (.int x2), some (.int r3)]) (st := [.ref 9]) (c1 := 0) (s1 := 0) (g := (ab_G mi1 ml2)) rfl ⟨trivial, trivial, trivial, trivial, trivial, trivial⟩ hc ?_
            obtain ⟨r15, mi13, ml14, hc, h⟩ := h
            refine ab_wc 1 (c := 51) (as := [.ref 9, .long r12]) (pc := 81) (ll := [some (.ref 0), some (.int x1), some (.int x2), some (.int r3)]) (st := []) (c1 := 0) (s1 := 0) (g := (ab_G mi10 ml11)) rfl trivial hc ?_
            exact ab_wr 1 rfl trivial h
          · have h := h.2 c
            exact ab_wr 2 rfl ⟨trivial, trivial⟩ h
theorem vc_X11_why_0 {call : Nat → List Value → ab_S → Option Value → ab_S → Prop} {ro : ab_E} {Q : Option Value → ab_S → Prop} (x1 : Int32) (x2 : Int32) (x3 : Int32) (mi : Nat → Nat → Int32) (ml : Nat → Nat → Int64)
    (h : ∃ (r3 : Int32) (mi1 : Nat → Nat → Int32) (ml2 : Nat → Nat → Int64), call 139 [.ref 0, .int x2] (ab_G mi ml) (some (.int r3)) (ab_G mi1 ml2) ∧ (((r3 = (-1)) → (Q (some (.int (-1))) (ab_G mi1 ml2))) ∧ (¬ (r3 = (-1)) → (∃ (r6 : Int32) (mi4 : Nat → Nat → Int32) (ml5 : Nat → Nat → Int64), call 135 [.ref 0, .int x1] (ab_G mi1 ml2) (some (.int r6)) (ab_G mi4 ml5) ∧ (((r6 = 0) → (Q (some (.int (-1))) (ab_G mi4 ml5))) ∧ (¬ (r6 = 0) → (vp_in x1 30 ∧ ((((mi4 26 (x1).toNatClampNeg) = (-1)) → (Q (some (.int (-1))) (ab_G mi4 ml5))) ∧ (¬ ((mi4 26 (x1).toNatClampNeg) = (-1)) → (((x3 < 0) → (Q (some (.int (-1))) (ab_G mi4 ml5))) ∧ (¬ (x3 < 0) → (((1 < x3) → (Q (some (.int (-1))) (ab_G mi4 ml5))) ∧ (¬ (1 < x3) → (vp_in x1 30 ∧ (∃ (r9 : Int32) (mi7 : Nat → Nat → Int32) (ml8 : Nat → Nat → Int64), call 140 [.ref 0, .int r3, .int (mi4 26 (x1).toNatClampNeg)] (ab_G mi4 ml5) (some (.int r9)) (ab_G mi7 ml8) ∧ (∃ (r12 : Int32) (mi10 : Nat → Nat → Int32) (ml11 : Nat → Nat → Int64), call 141 [.ref 0, .int r3, .int (mi4 26 (x1).toNatClampNeg), .int r9] (ab_G mi7 ml8) (some (.int r12)) (ab_G mi10 ml11) ∧ (((x3 = 0) → (Q (some (.int r12)) (ab_G mi10 ml11))) ∧ (¬ (x3 = 0) → (((r12 = 2) → (Q (some (.int r9)) (ab_G mi10 ml11))) ∧ (¬ (r12 = 2) → (Q (some (.int (-1))) (ab_G mi10 ml11)))))))))))))))))))))) :
    ab_W call ro 0 0 (ab_lk2 pl_X11_why) Q (0, [some (.ref 0), some (.int x1), some (.int x2), some (.int x3), none, none, none, none], [], 0, 0, ab_G mi ml) := by
  obtain ⟨r3, mi1, ml2, hc, h⟩ := h
  refine ab_wc 3 (c := 139) (as := [.ref 0, .int x2]) (pc := 5) (ll := [some (.ref 0), some (.int x1), some (.int x2), some (.int x3), none, none, none, none]) (st := []) (c1 := 0) (s1 := 0) (g := (ab_G mi ml)) rfl ⟨trivial, trivial, trivial⟩ hc ?_
  refine ab_wk 4 (f' := (if r3 = (-1) then 43 else 13, [some (.ref 0), some (.int x1), some (.int x2), some (.int x3), some (.int r3), none, none, none], [], 0, 0, (ab_G mi1 ml2))) rfl ⟨trivial, trivial, trivial, trivial, trivial⟩ ?_
  refine ab_wi (fun c => ?_) (fun c => ?_)
  · have h := h.1 c
    exact ab_wr 2 rfl ⟨trivial, trivial⟩ h
  · have h := h.2 c
    obtain ⟨r6, mi4, ml5, hc, h⟩ := h
    refine ab_wc 3 (c := 135) (as := [.ref 0, .int x1]) (pc := 18) (ll := [some (.ref 0), some (.int x1), some (.int x2), some (.int x3), some (.int r3), none, none, none]) (st := []) (c1 := 0) (s1 := 0) (g := (ab_G mi1 ml2)) rfl ⟨trivial, trivial, trivial⟩ hc ?_
    refine ab_wk 1 (f' := (if r6 = 0 then 43 else 21, [some (.ref 0), some (.int x1), some (.int x2), some (.int x3), some (.int r3), none, none, none], [], 0, 0, (ab_G mi4 ml5))) rfl ⟨trivial, trivial⟩ ?_
    refine ab_wi (fun c => ?_) (fun c => ?_)
    · have h := h.1 c
      exact ab_wr 2 rfl ⟨trivial, trivial⟩ h
    · have h := h.2 c
      obtain ⟨p0, h⟩ := h
      refine ab_wk 7 (f' := (if (mi4 26 (x1).toNatClampNeg) = (-1) then 43 else 34, [some (.ref 0), some (.int x1), some (.int x2), some (.int x3), some (.int r3), none, none, none], [], 0, 0, (ab_G mi4 ml5))) rfl ⟨trivial, trivial, trivial, trivial, p0, trivial, trivial, trivial⟩ ?_
      refine ab_wi (fun c => ?_) (fun c => ?_)
      · have h := h.1 c
        exact ab_wr 2 rfl ⟨trivial, trivial⟩ h
      · have h := h.2 c
        refine ab_wk 2 (f' := (if x3 < 0 then 43 else 38, [some (.ref 0), some (.int x1), some (.int x2), some (.int x3), some (.int r3), none, none, none], [], 0, 0, (ab_G mi4 ml5))) rfl ⟨trivial, trivial, trivial⟩ ?_
        refine ab_wi (fun c => ?_) (fun c => ?_)
        · have h := h.1 c
          exact ab_wr 2 rfl ⟨trivial, trivial⟩ h
        · have h := h.2 c
          refine ab_wk 3 (f' := (if 1 < x3 then 43 else 45, [some (.ref 0), some (.int x1), some (.int x2), some (.int x3), some (.int r3), none, none, none], [], 0, 0, (ab_G mi4 ml5))) rfl ⟨trivial, trivial, trivial, trivial⟩ ?_
          refine ab_wi (fun c => ?_) (fun c => ?_)
          · have h := h.1 c
            exact ab_wr 2 rfl ⟨trivial, trivial⟩ h
          · have h := h.2 c
            obtain ⟨p0, h⟩ := h
            obtain ⟨r9, mi7, ml8, hc, h⟩ := h
            refine ab_wc 10 (c := 140) (as := [.ref 0, .int r3, .int (mi4 26 (x1).toNatClampNeg)]) (pc := 64) (ll := [some (.ref 0), some (.int x1), some (.int x2), some (.int x3), some (.int r3), some (.int (mi4 26 (x1).toNatClampNeg)), none, none]) (st := []) (c1 := 0) (s1 := 0) (g := (ab_G mi4 ml5)) rfl ⟨trivial, trivial, trivial, trivial, p0, trivial, trivial, trivial, trivial, trivial⟩ hc ?_
            obtain ⟨r12, mi10, ml11, hc, h⟩ := h
            refine ab_wc 6 (c := 141) (as := [.ref 0, .int r3, .int (mi4 26 (x1).toNatClampNeg), .int r9]) (pc := 76) (ll := [some (.ref 0), some (.int x1), some (.int x2), some (.int x3), some (.int r3), some (.int (mi4 26 (x1).toNatClampNeg)), some (.int r9), none]) (st := []) (c1 := 0) (s1 := 0) (g := (ab_G mi7 ml8)) rfl ⟨trivial, trivial, trivial, trivial, trivial, trivial⟩ hc ?_
            refine ab_wk 3 (f' := (if x3 = 0 then 82 else 85, [some (.ref 0), some (.int x1), some (.int x2), some (.int x3), some (.int r3), some (.int (mi4 26 (x1).toNatClampNeg)), some (.int r9), some (.int r12)], [], 0, 0, (ab_G mi10 ml11))) rfl ⟨trivial, trivial, trivial, trivial⟩ ?_
            refine ab_wi (fun c => ?_) (fun c => ?_)
            · have h := h.1 c
              exact ab_wr 2 rfl ⟨trivial, trivial⟩ h
            · have h := h.2 c
              refine ab_wk 3 (f' := (if r12 = 2 then 91 else 96, [some (.ref 0), some (.int x1), some (.int x2), some (.int x3), some (.int r3), some (.int (mi4 26 (x1).toNatClampNeg)), some (.int r9), some (.int r12)], [], 0, 0, (ab_G mi10 ml11))) rfl ⟨trivial, trivial, trivial, trivial⟩ ?_
              refine ab_wi (fun c => ?_) (fun c => ?_)
              · have h := h.1 c
                exact ab_wr 3 rfl ⟨trivial, trivial, trivial⟩ h
              · have h := h.2 c
                exact ab_wr 2 rfl ⟨trivial, trivial⟩ h
theorem vc_X11_vote_0 {call : Nat → List Value → ab_S → Option Value → ab_S → Prop} {ro : ab_E} {Q : Option Value → ab_S → Prop} (x1 : Int32) (x2 : Int32) (x3 : Int32) (mi : Nat → Nat → Int32) (ml : Nat → Nat → Int64)
    (h : ∃ (r3 : Int32) (mi1 : Nat → Nat → Int32) (ml2 : Nat → Nat → Int64), call 137 [.int x1] (ab_G mi ml) (some (.int r3)) (ab_G mi1 ml2) ∧ (((r3 = 0) → (Q (some (.int 0)) (ab_G mi1 ml2))) ∧ (¬ (r3 = 0) → (((x2 < 0) → (Q (some (.int 0)) (ab_G mi1 ml2))) ∧ (¬ (x2 < 0) → (((x2 < 6) → (∃ (mi4 : Nat → Nat → Int32) (ml5 : Nat → Nat → Int64), call 2 [.ref 36, .int x1, .int x2, .int x3] (ab_G mi1 ml2) none (ab_G mi4 ml5) ∧ (Q (some (.int 1)) (ab_G mi4 ml5)))) ∧ (¬ (x2 < 6) → (Q (some (.int 0)) (ab_G mi1 ml2))))))))) :
    ab_W call ro 0 0 (ab_lk2 pl_X11_vote) Q (0, [some (.ref 0), some (.int x1), some (.int x2), some (.int x3)], [], 0, 0, ab_G mi ml) := by
  obtain ⟨r3, mi1, ml2, hc, h⟩ := h
  refine ab_wc 2 (c := 137) (as := [.int x1]) (pc := 4) (ll := [some (.ref 0), some (.int x1), some (.int x2), some (.int x3)]) (st := []) (c1 := 0) (s1 := 0) (g := (ab_G mi ml)) rfl ⟨trivial, trivial⟩ hc ?_
  refine ab_wk 1 (f' := (if r3 = 0 then 17 else 7, [some (.ref 0), some (.int x1), some (.int x2), some (.int x3)], [], 0, 0, (ab_G mi1 ml2))) rfl ⟨trivial, trivial⟩ ?_
  refine ab_wi (fun c => ?_) (fun c => ?_)
  · have h := h.1 c
    exact ab_wr 2 rfl ⟨trivial, (Or.inl rfl)⟩ h
  · have h := h.2 c
    refine ab_wk 2 (f' := (if x2 < 0 then 17 else 11, [some (.ref 0), some (.int x1), some (.int x2), some (.int x3)], [], 0, 0, (ab_G mi1 ml2))) rfl ⟨trivial, trivial, trivial⟩ ?_
    refine ab_wi (fun c => ?_) (fun c => ?_)
    · have h := h.1 c
      exact ab_wr 2 rfl ⟨trivial, (Or.inl rfl)⟩ h
    · have h := h.2 c
      refine ab_wk 3 (f' := (if x2 < 6 then 19 else 17, [some (.ref 0), some (.int x1), some (.int x2), some (.int x3)], [], 0, 0, (ab_G mi1 ml2))) rfl ⟨trivial, trivial, trivial, trivial⟩ ?_
      refine ab_wi (fun c => ?_) (fun c => ?_)
      · have h := h.1 c
        obtain ⟨mi4, ml5, hc, h⟩ := h
        refine ab_wc 6 (c := 2) (as := [.ref 36, .int x1, .int x2, .int x3]) (pc := 29) (ll := [some (.ref 0), some (.int x1), some (.int x2), some (.int x3)]) (st := []) (c1 := 0) (s1 := 0) (g := (ab_G mi1 ml2)) rfl ⟨trivial, trivial, trivial, trivial, trivial, trivial⟩ hc ?_
        exact ab_wr 2 rfl ⟨trivial, (Or.inr rfl)⟩ h
      · have h := h.2 c
        exact ab_wr 2 rfl ⟨trivial, (Or.inl rfl)⟩ h
theorem vc_X11_votes_0 {call : Nat → List Value → ab_S → Option Value → ab_S → Prop} {ro : ab_E} {Q : Option Value → ab_S → Prop} (x1 : Int32) (mi : Nat → Nat → Int32) (ml : Nat → Nat → Int64)
    (h : ∃ (mi1 : Nat → Nat → Int32) (ml2 : Nat → Nat → Int64), call 138 [.ref 0] (ab_G mi ml) none (ab_G mi1 ml2) ∧ (((x1 = 3) → (∃ (r5 : Int32) (mi3 : Nat → Nat → Int32) (ml4 : Nat → Nat → Int64), call 3 [.ref 36, .int (-1), .int 0] (ab_G mi1 ml2) (some (.int r5)) (ab_G mi3 ml4) ∧ (Q (some (.int r5)) (ab_G mi3 ml4)))) ∧ (¬ (x1 = 3) → (((x1 < 0) → (Q (some (.int (-1))) (ab_G mi1 ml2))) ∧ (¬ (x1 < 0) → (((3 < x1) → (Q (some (.int (-1))) (ab_G mi1 ml2))) ∧ (¬ (3 < x1) → (∃ (mi6 : Nat → Nat → Int32) (ml7 : Nat → Nat → Int64), call 6 [.ref 36, .int 0] (ab_G mi1 ml2) none (ab_G mi6 ml7) ∧ (((x1 = 0) → (Q (some (.int (mi6 36 4))) (ab_G mi6 ml7))) ∧ (¬ (x1 = 0) → (((x1 = 1) → (Q (some (.int (mi6 36 5))) (ab_G mi6 ml7))) ∧ (¬ (x1 = 1) → (∃ (r10 : Int32) (mi8 : Nat → Nat → Int32) (ml9 : Nat → Nat → Int64), call 243 [.long (ml7 36 6)] (ab_G mi6 ml7) (some (.int r10)) (ab_G mi8 ml9) ∧ (Q (some (.int r10)) (ab_G mi8 ml9))))))))))))))) :
    ab_W call ro 0 0 (ab_lk2 pl_X11_votes) Q (0, [some (.ref 0), some (.int x1)], [], 0, 0, ab_G mi ml) := by
  obtain ⟨mi1, ml2, hc, h⟩ := h
  refine ab_wc 2 (c := 138) (as := [.ref 0]) (pc := 4) (ll := [some (.ref 0), some (.int x1)]) (st := []) (c1 := 0) (s1 := 0) (g := (ab_G mi ml)) rfl ⟨trivial, trivial⟩ hc ?_
  refine ab_wk 3 (f' := (if x1 = 3 then 9 else 19, [some (.ref 0), some (.int x1)], [], 0, 0, (ab_G mi1 ml2))) rfl ⟨trivial, trivial, trivial, trivial⟩ ?_
  refine ab_wi (fun c => ?_) (fun c => ?_)
  · have h := h.1 c
    obtain ⟨r5, mi3, ml4, hc, h⟩ := h
    refine ab_wc 5 (c := 3) (as := [.ref 36, .int (-1), .int 0]) (pc := 18) (ll := [some (.ref 0), some (.int x1)]) (st := []) (c1 := 0) (s1 := 0) (g := (ab_G mi1 ml2)) rfl ⟨trivial, trivial, trivial, trivial, trivial⟩ hc ?_
    exact ab_wr 1 rfl trivial h
  · have h := h.2 c
    refine ab_wk 2 (f' := (if x1 < 0 then 28 else 23, [some (.ref 0), some (.int x1)], [], 0, 0, (ab_G mi1 ml2))) rfl ⟨trivial, trivial, trivial⟩ ?_
    refine ab_wi (fun c => ?_) (fun c => ?_)
    · have h := h.1 c
      exact ab_wr 2 rfl ⟨trivial, trivial⟩ h
    · have h := h.2 c
      refine ab_wk 3 (f' := (if 3 < x1 then 28 else 30, [some (.ref 0), some (.int x1)], [], 0, 0, (ab_G mi1 ml2))) rfl ⟨trivial, trivial, trivial, trivial⟩ ?_
      refine ab_wi (fun c => ?_) (fun c => ?_)
      · have h := h.1 c
        exact ab_wr 2 rfl ⟨trivial, trivial⟩ h
      · have h := h.2 c
        obtain ⟨mi6, ml7, hc, h⟩ := h
        refine ab_wc 4 (c := 6) (as := [.ref 36, .int 0]) (pc := 38) (ll := [some (.ref 0), some (.int x1)]) (st := []) (c1 := 0) (s1 := 0) (g := (ab_G mi1 ml2)) rfl ⟨trivial, trivial, trivial, trivial⟩ hc ?_
        refine ab_wk 2 (f' := (ab_sw x1 [(0, 64), (1, 72)] 80, [some (.ref 0), some (.int x1)], [], 0, 0, (ab_G mi6 ml7))) rfl ⟨trivial, trivial, trivial⟩ ?_
        refine ab_wi (fun c => ?_) (fun c => ?_)
        · have h := h.1 c
          exact ab_wr 4 rfl ⟨trivial, trivial, trivial, trivial⟩ h
        · have h := h.2 c
          refine ab_wi (fun c => ?_) (fun c => ?_)
          · have h := h.1 c
            exact ab_wr 4 rfl ⟨trivial, trivial, trivial, trivial⟩ h
          · have h := h.2 c
            obtain ⟨r10, mi8, ml9, hc, h⟩ := h
            refine ab_wc 4 (c := 243) (as := [.long (ml7 36 6)]) (pc := 90) (ll := [some (.ref 0), some (.int x1)]) (st := []) (c1 := 0) (s1 := 0) (g := (ab_G mi6 ml7)) rfl ⟨trivial, trivial, trivial, trivial⟩ hc ?_
            exact ab_wr 1 rfl trivial h
theorem vc_X11_favour_0 {call : Nat → List Value → ab_S → Option Value → ab_S → Prop} {ro : ab_E} {Q : Option Value → ab_S → Prop} (x1 : Int32) (x2 : Int32) (mi : Nat → Nat → Int32) (ml : Nat → Nat → Int64)
    (h : ∃ (mi1 : Nat → Nat → Int32) (ml2 : Nat → Nat → Int64), call 138 [.ref 0] (ab_G mi ml) none (ab_G mi1 ml2) ∧ (∃ (r5 : Int32) (mi3 : Nat → Nat → Int32) (ml4 : Nat → Nat → Int64), call 137 [.int x1] (ab_G mi1 ml2) (some (.int r5)) (ab_G mi3 ml4) ∧ (((r5 = 0) → (Q (some (.int (-1))) (ab_G mi3 ml4))) ∧ (¬ (r5 = 0) → (vp_in x1 7 ∧ (∃ (mi6 : Nat → Nat → Int32) (ml7 : Nat → Nat → Int64), call 6 [.ref 36, .int (mi3 37 (x1).toNatClampNeg)] (ab_G mi3 ml4) none (ab_G mi6 ml7) ∧ (((x2 = 0) → (Q (some (.int (mi6 36 8))) (ab_G mi6 ml7))) ∧ (¬ (x2 = 0) → (((x2 = 1) → (Q (some (.int (mi6 36 9))) (ab_G mi6 ml7))) ∧ (¬ (x2 = 1) → (((x2 = 2) → (Q (some (.int (mi6 36 10))) (ab_G mi6 ml7))) ∧ (¬ (x2 = 2) → (Q (some (.int (-1))) (ab_G mi6 ml7)))))))))))))) :
    ab_W call ro 0 0 (ab_lk2 pl_X11_favour) Q (0, [some (.ref 0), some (.int x1), some (.int x2)], [], 0, 0, ab_G mi ml) := by
  obtain ⟨mi1, ml2, hc, h⟩ := h
  refine ab_wc 2 (c := 138) (as := [.ref 0]) (pc := 4) (ll := [some (.ref 0), some (.int x1), some (.int x2)]) (st := []) (c1 := 0) (s1 := 0) (g := (ab_G mi ml)) rfl ⟨trivial, trivial⟩ hc ?_
  obtain ⟨r5, mi3, ml4, hc, h⟩ := h
  refine ab_wc 2 (c := 137) (as := [.int x1]) (pc := 8) (ll := [some (.ref 0), some (.int x1), some (.int x2)]) (st := []) (c1 := 0) (s1 := 0) (g := (ab_G mi1 ml2)) rfl ⟨trivial, trivial⟩ hc ?_
  refine ab_wk 1 (f' := (if r5 = 0 then 11 else 13, [some (.ref 0), some (.int x1), some (.int x2)], [], 0, 0, (ab_G mi3 ml4))) rfl ⟨trivial, trivial⟩ ?_
  refine ab_wi (fun c => ?_) (fun c => ?_)
  · have h := h.1 c
    exact ab_wr 2 rfl ⟨trivial, trivial⟩ h
  · have h := h.2 c
    obtain ⟨p0, h⟩ := h
    obtain ⟨mi6, ml7, hc, h⟩ := h
    refine ab_wc 8 (c := 6) (as := [.ref 36, .int (mi3 37 (x1).toNatClampNeg)]) (pc := 29) (ll := [some (.ref 0), some (.int x1), some (.int x2)]) (st := []) (c1 := 0) (s1 := 0) (g := (ab_G mi3 ml4)) rfl ⟨trivial, trivial, trivial, trivial, trivial, trivial, p0, trivial⟩ hc ?_
    refine ab_wk 2 (f' := (ab_sw x2 [(0, 56), (1, 64), (2, 72)] 80, [some (.ref 0), some (.int x1), some (.int x2)], [], 0, 0, (ab_G mi6 ml7))) rfl ⟨trivial, trivial, trivial⟩ ?_
    refine ab_wi (fun c => ?_) (fun c => ?_)
    · have h := h.1 c
      exact ab_wr 4 rfl ⟨trivial, trivial, trivial, trivial⟩ h
    · have h := h.2 c
      refine ab_wi (fun c => ?_) (fun c => ?_)
      · have h := h.1 c
        exact ab_wr 4 rfl ⟨trivial, trivial, trivial, trivial⟩ h
      · have h := h.2 c
        refine ab_wi (fun c => ?_) (fun c => ?_)
        · have h := h.1 c
          exact ab_wr 4 rfl ⟨trivial, trivial, trivial, trivial⟩ h
        · have h := h.2 c
          exact ab_wr 2 rfl ⟨trivial, trivial⟩ h
theorem vc_X11_gain_0 {call : Nat → List Value → ab_S → Option Value → ab_S → Prop} {ro : ab_E} {Q : Option Value → ab_S → Prop} (x1 : Int32) (mi : Nat → Nat → Int32) (ml : Nat → Nat → Int64)
    (h : ∃ (mi1 : Nat → Nat → Int32) (ml2 : Nat → Nat → Int64), call 138 [.ref 0] (ab_G mi ml) none (ab_G mi1 ml2) ∧ (∃ (r5 : Int32) (mi3 : Nat → Nat → Int32) (ml4 : Nat → Nat → Int64), call 137 [.int x1] (ab_G mi1 ml2) (some (.int r5)) (ab_G mi3 ml4) ∧ (((r5 = 0) → (Q (some (.int (-1))) (ab_G mi3 ml4))) ∧ (¬ (r5 = 0) → (∃ (r8 : Int32) (mi6 : Nat → Nat → Int32) (ml7 : Nat → Nat → Int64), call 9 [.ref 36, .int x1] (ab_G mi3 ml4) (some (.int r8)) (ab_G mi6 ml7) ∧ (Q (some (.int r8)) (ab_G mi6 ml7))))))) :
    ab_W call ro 0 0 (ab_lk2 pl_X11_gain) Q (0, [some (.ref 0), some (.int x1)], [], 0, 0, ab_G mi ml) := by
  obtain ⟨mi1, ml2, hc, h⟩ := h
  refine ab_wc 2 (c := 138) (as := [.ref 0]) (pc := 4) (ll := [some (.ref 0), some (.int x1)]) (st := []) (c1 := 0) (s1 := 0) (g := (ab_G mi ml)) rfl ⟨trivial, trivial⟩ hc ?_
  obtain ⟨r5, mi3, ml4, hc, h⟩ := h
  refine ab_wc 2 (c := 137) (as := [.int x1]) (pc := 8) (ll := [some (.ref 0), some (.int x1)]) (st := []) (c1 := 0) (s1 := 0) (g := (ab_G mi1 ml2)) rfl ⟨trivial, trivial⟩ hc ?_
  refine ab_wk 1 (f' := (if r5 = 0 then 22 else 11, [some (.ref 0), some (.int x1)], [], 0, 0, (ab_G mi3 ml4))) rfl ⟨trivial, trivial⟩ ?_
  refine ab_wi (fun c => ?_) (fun c => ?_)
  · have h := h.1 c
    exact ab_wr 2 rfl ⟨trivial, trivial⟩ h
  · have h := h.2 c
    obtain ⟨r8, mi6, ml7, hc, h⟩ := h
    refine ab_wc 4 (c := 9) (as := [.ref 36, .int x1]) (pc := 19) (ll := [some (.ref 0), some (.int x1)]) (st := []) (c1 := 0) (s1 := 0) (g := (ab_G mi3 ml4)) rfl ⟨trivial, trivial, trivial, trivial⟩ hc ?_
    exact ab_wr 2 rfl ⟨trivial, trivial⟩ h
theorem vc_X11_world_0 {call : Nat → List Value → ab_S → Option Value → ab_S → Prop} {ro : ab_E} {Q : Option Value → ab_S → Prop} (x1 : Int32) (mi : Nat → Nat → Int32) (ml : Nat → Nat → Int64)
    (h : ((x1 < 0) → (Q (some (.int (-1))) (ab_G mi ml))) ∧ (¬ (x1 < 0) → (((x1 < 128) → ((((mi 18 2) < 40) → (∃ (r3 : Int32) (mi1 : Nat → Nat → Int32) (ml2 : Nat → Nat → Int64), call 15 [.ref 18, .int x1, .int (mi 1 0)] (ab_G mi ml) (some (.int r3)) (ab_G mi1 ml2) ∧ (Q (some (.int r3)) (ab_G mi1 ml2)))) ∧ (¬ ((mi 18 2) < 40) → (Q (some (.int (-1))) (ab_G mi ml))))) ∧ (¬ (x1 < 128) → (Q (some (.int (-1))) (ab_G mi ml)))))) :
    ab_W call ro 0 0 (ab_lk2 pl_X11_world) Q (0, [some (.ref 0), some (.int x1)], [], 0, 0, ab_G mi ml) := by
  refine ab_wk 2 (f' := (if x1 < 0 then 23 else 4, [some (.ref 0), some (.int x1)], [], 0, 0, (ab_G mi ml))) rfl ⟨trivial, trivial, trivial⟩ ?_
  refine ab_wi (fun c => ?_) (fun c => ?_)
  · have h := h.1 c
    exact ab_wr 2 rfl ⟨trivial, trivial⟩ h
  · have h := h.2 c
    refine ab_wk 3 (f' := (if x1 < 128 then 11 else 23, [some (.ref 0), some (.int x1)], [], 0, 0, (ab_G mi ml))) rfl ⟨trivial, trivial, trivial, trivial⟩ ?_
    refine ab_wi (fun c => ?_) (fun c => ?_)
    · have h := h.1 c
      refine ab_wk 5 (f' := (if (mi 18 2) < 40 then 25 else 23, [some (.ref 0), some (.int x1)], [], 0, 0, (ab_G mi ml))) rfl ⟨trivial, trivial, trivial, trivial, trivial, trivial⟩ ?_
      refine ab_wi (fun c => ?_) (fun c => ?_)
      · have h := h.1 c
        obtain ⟨r3, mi1, ml2, hc, h⟩ := h
        refine ab_wc 7 (c := 15) (as := [.ref 18, .int x1, .int (mi 1 0)]) (pc := 40) (ll := [some (.ref 0), some (.int x1)]) (st := []) (c1 := 0) (s1 := 0) (g := (ab_G mi ml)) rfl ⟨trivial, trivial, trivial, trivial, trivial, trivial, trivial⟩ hc ?_
        exact ab_wr 1 rfl trivial h
      · have h := h.2 c
        exact ab_wr 2 rfl ⟨trivial, trivial⟩ h
    · have h := h.2 c
      exact ab_wr 2 rfl ⟨trivial, trivial⟩ h
theorem vc_X11_cases_0 {call : Nat → List Value → ab_S → Option Value → ab_S → Prop} {ro : ab_E} {Q : Option Value → ab_S → Prop} (x1 : Int32) (x2 : Int32) (mi : Nat → Nat → Int32) (ml : Nat → Nat → Int64)
    (h : ∃ (r3 : Int32) (mi1 : Nat → Nat → Int32) (ml2 : Nat → Nat → Int64), call 139 [.ref 0, .int x1] (ab_G mi ml) (some (.int r3)) (ab_G mi1 ml2) ∧ (((r3 = (-1)) → (Q (some (.int (-1))) (ab_G mi1 ml2))) ∧ (¬ (r3 = (-1)) → (((x2 < 0) → (Q (some (.int (-1))) (ab_G mi1 ml2))) ∧ (¬ (x2 < 0) → (((1 < x2) → (Q (some (.int (-1))) (ab_G mi1 ml2))) ∧ (¬ (1 < x2) → (((x2 = 0) → (∃ (r6 : Int64) (mi4 : Nat → Nat → Int32) (ml5 : Nat → Nat → Int64), call 48 [.ref 9] (ab_G mi1 ml2) (some (.long r6)) (ab_G mi4 ml5) ∧ (((x2 = 0) → (∃ (r9 : Int64) (mi7 : Nat → Nat → Int32) (ml8 : Nat → Nat → Int64), call 32 [.ref 25, .int r3] (ab_G mi4 ml5) (some (.long r9)) (ab_G mi7 ml8) ∧ (∃ (r12 : Int32) (mi10 : Nat → Nat → Int32) (ml11 : Nat → Nat → Int64), call 142 [.ref 0, .long r6, .long r9] (ab_G mi7 ml8) (some (.int r12)) (ab_G mi10 ml11) ∧ (Q (some (.int r12)) (ab_G mi10 ml11))))) ∧ (¬ (x2 = 0) → (∃ (r15 : Int64) (mi13 : Nat → Nat → Int32) (ml14 : Nat → Nat → Int64), call 48 [.ref 9] (ab_G mi4 ml5) (some (.long r15)) (ab_G mi13 ml14) ∧ (∃ (r18 : Int32) (mi16 : Nat → Nat → Int32) (ml17 : Nat → Nat → Int64), call 142 [.ref 0, .long r6, .long r15] (ab_G mi13 ml14) (some (.int r18)) (ab_G mi16 ml17) ∧ (Q (some (.int r18)) (ab_G mi16 ml17)))))))) ∧ (¬ (x2 = 0) → (∃ (r21 : Int64) (mi19 : Nat → Nat → Int32) (ml20 : Nat → Nat → Int64), call 32 [.ref 25, .int r3] (ab_G mi1 ml2) (some (.long r21)) (ab_G mi19 ml20) ∧ (((x2 = 0) → (∃ (r24 : Int64) (mi22 : Nat → Nat → Int32) (ml23 : Nat → Nat → Int64), call 32 [.ref 25, .int r3] (ab_G mi19 ml20) (some (.long r24)) (ab_G mi22 ml23) ∧ (∃ (r27 : Int32) (mi25 : Nat → Nat → Int32) (ml26 : Nat → Nat → Int64), call 142 [.ref 0, .long r21, .long r24] (ab_G mi22 ml23) (some (.int r27)) (ab_G mi25 ml26) ∧ (Q (some (.int r27)) (ab_G mi25 ml26))))) ∧ (¬ (x2 = 0) → (∃ (r30 : Int64) (mi28 : Nat → Nat → Int32) (ml29 : Nat → Nat → Int64), call 48 [.ref 9] (ab_G mi19 ml20) (some (.long r30)) (ab_G mi28 ml29) ∧ (∃ (r33 : Int32) (mi31 : Nat → Nat → Int32) (ml32 : Nat → Nat → Int64), call 142 [.ref 0, .long r21, .long r30] (ab_G mi28 ml29) (some (.int r33)) (ab_G mi31 ml32) ∧ (Q (some (.int r33)) (ab_G mi31 ml32)))))))))))))))) :
    ab_W call ro 0 0 (ab_lk2 pl_X11_cases) Q (0, [some (.ref 0), some (.int x1), some (.int x2), none, none, none, none, none], [], 0, 0, ab_G mi ml) := by
  obtain ⟨r3, mi1, ml2, hc, h⟩ := h
  refine ab_wc 3 (c := 139) (as := [.ref 0, .int x1]) (pc := 5) (ll := [some (.ref 0), some (.int x1), some (.int x2), none, none, none, none, none]) (st := []) (c1 := 0) (s1 := 0) (g := (ab_G mi ml)) rfl ⟨trivial, trivial, trivial⟩ hc ?_
  refine ab_wk 4 (f' := (if r3 = (-1) then 20 else 11, [some (.ref 0), some (.int x1), some (.int x2), some (.int r3), none, none, none, none], [], 0, 0, (ab_G mi1 ml2))) rfl ⟨trivial, trivial, trivial, trivial, trivial⟩ ?_
  refine ab_wi (fun c => ?_) (fun c => ?_)
  · have h := h.1 c
    exact ab_wr 2 rfl ⟨trivial, trivial⟩ h
  · have h := h.2 c
    refine ab_wk 2 (f' := (if x2 < 0 then 20 else 15, [some (.ref 0), some (.int x1), some (.int x2), some (.int r3), none, none, none, none], [], 0, 0, (ab_G mi1 ml2))) rfl ⟨trivial, trivial, trivial⟩ ?_
    refine ab_wi (fun c => ?_) (fun c => ?_)
    · have h := h.1 c
      exact ab_wr 2 rfl ⟨trivial, trivial⟩ h
    · have h := h.2 c
      refine ab_wk 3 (f' := (if 1 < x2 then 20 else 22, [some (.ref 0), some (.int x1), some (.int x2), some (.int r3), none, none, none, none], [], 0, 0, (ab_G mi1 ml2))) rfl ⟨trivial, trivial, trivial, trivial⟩ ?_
      refine ab_wi (fun c => ?_) (fun c => ?_)
      · have h := h.1 c
        exact ab_wr 2 rfl ⟨trivial, trivial⟩ h
      · have h := h.2 c
        refine ab_wk 2 (f' := (if x2 = 0 then 26 else 36, [some (.ref 0), some (.int x1), some (.int x2), some (.int r3), none, none, none, none], [], 0, 0, (ab_G mi1 ml2))) rfl ⟨trivial, trivial, trivial⟩ ?_
        refine ab_wi (fun c => ?_) (fun c => ?_)
        · have h := h.1 c
          obtain ⟨r6, mi4, ml5, hc, h⟩ := h
          refine ab_wc 3 (c := 48) (as := [.ref 9]) (pc := 33) (ll := [some (.ref 0), some (.int x1), some (.int x2), some (.int r3), none, none, none, none]) (st := []) (c1 := 0) (s1 := 0) (g := (ab_G mi1 ml2)) rfl ⟨trivial, trivial, trivial⟩ hc ?_
          refine ab_wk 4 (f' := (if x2 = 0 then 50 else 61, [some (.ref 0), some (.int x1), some (.int x2), some (.int r3), some (.long r6), none, none, none], [], 0, 0, (ab_G mi4 ml5))) rfl ⟨trivial, trivial, trivial, trivial, trivial⟩ ?_
          refine ab_wi (fun c => ?_) (fun c => ?_)
          · have h := h.1 c
            obtain ⟨r9, mi7, ml8, hc, h⟩ := h
            refine ab_wc 4 (c := 32) (as := [.ref 25, .int r3]) (pc := 58) (ll := [some (.ref 0), some (.int x1), some (.int x2), some (.int r3), some (.long r6), none, none, none]) (st := []) (c1 := 0) (s1 := 0) (g := (ab_G mi4 ml5)) rfl ⟨trivial, trivial, trivial, trivial⟩ hc ?_
            obtain ⟨r12, mi10, ml11, hc, h⟩ := h
            refine ab_wc 6 (c := 142) (as := [.ref 0, .long r6, .long r9]) (pc := 78) (ll := [some (.ref 0), some (.int x1), some (.int x2), some (.int r3), some (.long r6), none, some (.long r9), none]) (st := []) (c1 := 0) (s1 := 0) (g := (ab_G mi7 ml8)) rfl ⟨trivial, trivial, trivial, trivial, trivial, trivial⟩ hc ?_
            exact ab_wr 1 rfl trivial h
          · have h := h.2 c
            obtain ⟨r15, mi13, ml14, hc, h⟩ := h
            refine ab_wc 3 (c := 48) (as := [.ref 9]) (pc := 68) (ll := [some (.ref 0), some (.int x1), some (.int x2), some (.int r3), some (.long r6), none, none, none]) (st := []) (c1 := 0) (s1 := 0) (g := (ab_G mi4 ml5)) rfl ⟨trivial, trivial, trivial⟩ hc ?_
            obtain ⟨r18, mi16, ml17, hc, h⟩ := h
            refine ab_wc 5 (c := 142) (as := [.ref 0, .long r6, .long r15]) (pc := 78) (ll := [some (.ref 0), some (.int x1), some (.int x2), some (.int r3), some (.long r6), none, some (.long r15), none]) (st := []) (c1 := 0) (s1 := 0) (g := (ab_G mi13 ml14)) rfl ⟨trivial, trivial, trivial, trivial, trivial⟩ hc ?_
            exact ab_wr 1 rfl trivial h
        · have h := h.2 c
          obtain ⟨r21, mi19, ml20, hc, h⟩ := h
          refine ab_wc 4 (c := 32) (as := [.ref 25, .int r3]) (pc := 44) (ll := [some (.ref 0), some (.int x1), some (.int x2), some (.int r3), none, none, none, none]) (st := []) (c1 := 0) (s1 := 0) (g := (ab_G mi1 ml2)) rfl ⟨trivial, trivial, trivial, trivial⟩ hc ?_
          refine ab_wk 3 (f' := (if x2 = 0 then 50 else 61, [some (.ref 0), some (.int x1), some (.int x2), some (.int r3), some (.long r21), none, none, none], [], 0, 0, (ab_G mi19 ml20))) rfl ⟨trivial, trivial, trivial, trivial⟩ ?_
          refine ab_wi (fun c => ?_) (fun c => ?_)
          · have h := h.1 c
            obtain ⟨r24, mi22, ml23, hc, h⟩ := h
            refine ab_wc 4 (c := 32) (as := [.ref 25, .int r3]) (pc := 58) (ll := [some (.ref 0), some (.int x1), some (.int x2), some (.int r3), some (.long r21), none, none, none]) (st := []) (c1 := 0) (s1 := 0) (g := (ab_G mi19 ml20)) rfl ⟨trivial, trivial, trivial, trivial⟩ hc ?_
            obtain ⟨r27, mi25, ml26, hc, h⟩ := h
            refine ab_wc 6 (c := 142) (as := [.ref 0, .long r21, .long r24]) (pc := 78) (ll := [some (.ref 0), some (.int x1), some (.int x2), some (.int r3), some (.long r21), none, some (.long r24), none]) (st := []) (c1 := 0) (s1 := 0) (g := (ab_G mi22 ml23)) rfl ⟨trivial, trivial, trivial, trivial, trivial, trivial⟩ hc ?_
            exact ab_wr 1 rfl trivial h
          · have h := h.2 c
            obtain ⟨r30, mi28, ml29, hc, h⟩ := h
            refine ab_wc 3 (c := 48) (as := [.ref 9]) (pc := 68) (ll := [some (.ref 0), some (.int x1), some (.int x2), some (.int r3), some (.long r21), none, none, none]) (st := []) (c1 := 0) (s1 := 0) (g := (ab_G mi19 ml20)) rfl ⟨trivial, trivial, trivial⟩ hc ?_
            obtain ⟨r33, mi31, ml32, hc, h⟩ := h
            refine ab_wc 5 (c := 142) (as := [.ref 0, .long r21, .long r30]) (pc := 78) (ll := [some (.ref 0), some (.int x1), some (.int x2), some (.int r3), some (.long r21), none, some (.long r30), none]) (st := []) (c1 := 0) (s1 := 0) (g := (ab_G mi28 ml29)) rfl ⟨trivial, trivial, trivial, trivial, trivial⟩ hc ?_
            exact ab_wr 1 rfl trivial h
theorem vc_X11_blamed_0 {call : Nat → List Value → ab_S → Option Value → ab_S → Prop} {ro : ab_E} {Q : Option Value → ab_S → Prop} (x1 : Int32) (x2 : Int32) (mi : Nat → Nat → Int32) (ml : Nat → Nat → Int64)
    (h : ∃ (r3 : Int32) (mi1 : Nat → Nat → Int32) (ml2 : Nat → Nat → Int64), call 139 [.ref 0, .int x2] (ab_G mi ml) (some (.int r3)) (ab_G mi1 ml2) ∧ (((r3 = (-1)) → (Q (some (.int (-1))) (ab_G mi1 ml2))) ∧ (¬ (r3 = (-1)) → (((x1 < 0) → (Q (some (.int (-1))) (ab_G mi1 ml2))) ∧ (¬ (x1 < 0) → (((x1 < (mi1 18 2)) → (vp_in x1 40 ∧ (∃ (r6 : Int32) (mi4 : Nat → Nat → Int32) (ml5 : Nat → Nat → Int64), call 13 [.ref 1] (ab_G mi1 ml2) (some (.int r6)) (ab_G mi4 ml5) ∧ (((r6 < (mi1 20 (x1).toNatClampNeg)) → (Q (some (.int (-1))) (ab_G mi4 ml5))) ∧ (¬ (r6 < (mi1 20 (x1).toNatClampNeg)) → (vp_in x1 40 ∧ (∃ (r9 : Int64) (mi7 : Nat → Nat → Int32) (ml8 : Nat → Nat → Int64), call 48 [.ref 9] (ab_G mi4 ml5) (some (.long r9)) (ab_G mi7 ml8) ∧ (∃ (r12 : Int32) (mi10 : Nat → Nat → Int32) (ml11 : Nat → Nat → Int64), call 52 [.ref 9, .long r9, .int (mi4 19 (x1).toNatClampNeg)] (ab_G mi7 ml8) (some (.int r12)) (ab_G mi10 ml11) ∧ (∃ (r15 : Int64) (mi13 : Nat → Nat → Int32) (ml14 : Nat → Nat → Int64), call 32 [.ref 25, .int r3] (ab_G mi10 ml11) (some (.long r15)) (ab_G mi13 ml14) ∧ (∃ (r18 : Int32) (mi16 : Nat → Nat → Int32) (ml17 : Nat → Nat → Int64), call 52 [.ref 9, .long r15, .int (mi4 19 (x1).toNatClampNeg)] (ab_G mi13 ml14) (some (.int r18)) (ab_G mi16 ml17) ∧ (((r18 = r12) → (Q (some (.int (-1))) (ab_G mi16 ml17))) ∧ (¬ (r18 = r12) → (ab_W call ro 0 0 (ab_lk2 pl_X11_blamed) Q (103, [some (.ref 0), some (.int x1), some (.int x2), some (.int r3), some (.int (mi4 19 (x1).toNatClampNeg)), some (.int r12), some (.int 0), none], [], 0, 0, (ab_G mi16 ml17))))))))))))))) ∧ (¬ (x1 < (mi1 18 2)) → (Q (some (.int (-1))) (ab_G mi1 ml2))))))))) :
    ab_W call ro 0 0 (ab_lk2 pl_X11_blamed) Q (0, [some (.ref 0), some (.int x1), some (.int x2), none, none, none, none, none], [], 0, 0, ab_G mi ml) := by
  obtain ⟨r3, mi1, ml2, hc, h⟩ := h
  refine ab_wc 3 (c := 139) (as := [.ref 0, .int x2]) (pc := 5) (ll := [some (.ref 0), some (.int x1), some (.int x2), none, none, none, none, none]) (st := []) (c1 := 0) (s1 := 0) (g := (ab_G mi ml)) rfl ⟨trivial, trivial, trivial⟩ hc ?_
  refine ab_wk 4 (f' := (if r3 = (-1) then 45 else 11, [some (.ref 0), some (.int x1), some (.int x2), some (.int r3), none, none, none, none], [], 0, 0, (ab_G mi1 ml2))) rfl ⟨trivial, trivial, trivial, trivial, trivial⟩ ?_
  refine ab_wi (fun c => ?_) (fun c => ?_)
  · have h := h.1 c
    exact ab_wr 2 rfl ⟨trivial, trivial⟩ h
  · have h := h.2 c
    refine ab_wk 2 (f' := (if x1 < 0 then 45 else 15, [some (.ref 0), some (.int x1), some (.int x2), some (.int r3), none, none, none, none], [], 0, 0, (ab_G mi1 ml2))) rfl ⟨trivial, trivial, trivial⟩ ?_
    refine ab_wi (fun c => ?_) (fun c => ?_)
    · have h := h.1 c
      exact ab_wr 2 rfl ⟨trivial, trivial⟩ h
    · have h := h.2 c
      refine ab_wk 5 (f' := (if x1 < (mi1 18 2) then 26 else 45, [some (.ref 0), some (.int x1), some (.int x2), some (.int r3), none, none, none, none], [], 0, 0, (ab_G mi1 ml2))) rfl ⟨trivial, trivial, trivial, trivial, trivial, trivial⟩ ?_
      refine ab_wi (fun c => ?_) (fun c => ?_)
      · have h := h.1 c
        obtain ⟨p0, h⟩ := h
        obtain ⟨r6, mi4, ml5, hc, h⟩ := h
        refine ab_wc 8 (c := 13) (as := [.ref 1]) (pc := 42) (ll := [some (.ref 0), some (.int x1), some (.int x2), some (.int r3), none, none, none, none]) (st := [.int (mi1 20 (x1).toNatClampNeg)]) (c1 := 0) (s1 := 0) (g := (ab_G mi1 ml2)) rfl ⟨trivial, trivial, trivial, trivial, p0, trivial, trivial, trivial⟩ hc ?_
        refine ab_wk 1 (f' := (if r6 < (mi1 20 (x1).toNatClampNeg) then 45 else 47, [some (.ref 0), some (.int x1), some (.int x2), some (.int r3), none, none, none, none], [], 0, 0, (ab_G mi4 ml5))) rfl ⟨trivial, trivial⟩ ?_
        refine ab_wi (fun c => ?_) (fun c => ?_)
        · have h := h.1 c
          exact ab_wr 2 rfl ⟨trivial, trivial⟩ h
        · have h := h.2 c
          obtain ⟨p0, h⟩ := h
          obtain ⟨r9, mi7, ml8, hc, h⟩ := h
          refine ab_wc 11 (c := 48) (as := [.ref 9]) (pc := 69) (ll := [some (.ref 0), some (.int x1), some (.int x2), some (.int r3), some (.int (mi4 19 (x1).toNatClampNeg)), none, none, none]) (st := [.ref 9]) (c1 := 0) (s1 := 0) (g := (ab_G mi4 ml5)) rfl ⟨trivial, trivial, trivial, trivial, p0, trivial, trivial, trivial, trivial, trivial, trivial⟩ hc ?_
          obtain ⟨r12, mi10, ml11, hc, h⟩ := h
          refine ab_wc 2 (c := 52) (as := [.ref 9, .long r9, .int (mi4 19 (x1).toNatClampNeg)]) (pc := 74) (ll := [some (.ref 0), some (.int x1), some (.int x2), some (.int r3), some (.int (mi4 19 (x1).toNatClampNeg)), none, none, none]) (st := []) (c1 := 0) (s1 := 0) (g := (ab_G mi7 ml8)) rfl ⟨trivial, trivial⟩ hc ?_
          obtain ⟨r15, mi13, ml14, hc, h⟩ := h
          refine ab_wc 7 (c := 32) (as := [.ref 25, .int r3]) (pc := 88) (ll := [some (.ref 0), some (.int x1), some (.int x2), some (.int r3), some (.int (mi4 19 (x1).toNatClampNeg)), some (.int r12), none, none]) (st := [.ref 9]) (c1 := 0) (s1 := 0) (g := (ab_G mi10 ml11)) rfl ⟨trivial, trivial, trivial, trivial, trivial, trivial, trivial⟩ hc ?_
          obtain ⟨r18, mi16, ml17, hc, h⟩ := h
          refine ab_wc 2 (c := 52) (as := [.ref 9, .long r15, .int (mi4 19 (x1).toNatClampNeg)]) (pc := 93) (ll := [some (.ref 0), some (.int x1), some (.int x2), some (.int r3), some (.int (mi4 19 (x1).toNatClampNeg)), some (.int r12), none, none]) (st := []) (c1 := 0) (s1 := 0) (g := (ab_G mi13 ml14)) rfl ⟨trivial, trivial⟩ hc ?_
          refine ab_wk 2 (f' := (if r18 = r12 then 98 else 100, [some (.ref 0), some (.int x1), some (.int x2), some (.int r3), some (.int (mi4 19 (x1).toNatClampNeg)), some (.int r12), none, none], [], 0, 0, (ab_G mi16 ml17))) rfl ⟨trivial, trivial, trivial⟩ ?_
          refine ab_wi (fun c => ?_) (fun c => ?_)
          · have h := h.1 c
            exact ab_wr 2 rfl ⟨trivial, trivial⟩ h
          · have h := h.2 c
            exact ab_wk 2 (f' := (103, [some (.ref 0), some (.int x1), some (.int x2), some (.int r3), some (.int (mi4 19 (x1).toNatClampNeg)), some (.int r12), some (.int 0), none], [], 0, 0, (ab_G mi16 ml17))) rfl ⟨trivial, trivial, trivial⟩ h
      · have h := h.2 c
        exact ab_wr 2 rfl ⟨trivial, trivial⟩ h
theorem vc_X11_blamed_103 {call : Nat → List Value → ab_S → Option Value → ab_S → Prop} {ro : ab_E} {Q : Option Value → ab_S → Prop} (y1 : Int32) (y2 : Int32) (y3 : Int32) (y4 : Int32) (y5 : Int32) (y6 : Int32) (mi : Nat → Nat → Int32) (ml : Nat → Nat → Int64)
    (h : ((y6 < 12) → ((((y3 &&& (((1 : Int32) <<< (y6 &&& 31)) ^^^ (-1))) = y3) → (ab_W call ro 0 0 (ab_lk2 pl_X11_blamed) Q (103, [some (.ref 0), some (.int y1), some (.int y2), some (.int y3), some (.int y4), some (.int y5), some (.int (y6 + 1)), none], [], 0, 0, (ab_G mi ml)))) ∧ (¬ ((y3 &&& (((1 : Int32) <<< (y6 &&& 31)) ^^^ (-1))) = y3) → (∃ (r21 : Int64) (mi19 : Nat → Nat → Int32) (ml20 : Nat → Nat → Int64), call 32 [.ref 25, .int (y3 &&& (((1 : Int32) <<< (y6 &&& 31)) ^^^ (-1)))] (ab_G mi ml) (some (.long r21)) (ab_G mi19 ml20) ∧ (∃ (r24 : Int32) (mi22 : Nat → Nat → Int32) (ml23 : Nat → Nat → Int64), call 52 [.ref 9, .long r21, .int y4] (ab_G mi19 ml20) (some (.int r24)) (ab_G mi22 ml23) ∧ (((r24 = y5) → (Q (some (.int y6)) (ab_G mi22 ml23))) ∧ (¬ (r24 = y5) → (ab_W call ro 0 0 (ab_lk2 pl_X11_blamed) Q (103, [some (.ref 0), some (.int y1), some (.int y2), some (.int y3), some (.int y4), some (.int y5), some (.int (y6 + 1)), none], [], 0, 0, (ab_G mi22 ml23)))))))))) ∧ (¬ (y6 < 12) → (Q (some (.int (-1))) (ab_G mi ml)))) :
    ab_W call ro 0 0 (ab_lk2 pl_X11_blamed) Q (103, [some (.ref 0), some (.int y1), some (.int y2), some (.int y3), some (.int y4), some (.int y5), some (.int y6), none], [], 0, 0, ab_G mi ml) := by
  refine ab_wk 3 (f' := (if y6 < 12 then 110 else 158, [some (.ref 0), some (.int y1), some (.int y2), some (.int y3), some (.int y4), some (.int y5), some (.int y6), none], [], 0, 0, (ab_G mi ml))) rfl ⟨trivial, trivial, trivial, trivial⟩ ?_
  refine ab_wi (fun c => ?_) (fun c => ?_)
  · have h := h.1 c
    refine ab_wk 11 (f' := (if (y3 &&& (((1 : Int32) <<< (y6 &&& 31)) ^^^ (-1))) = y3 then 152 else 126, [some (.ref 0), some (.int y1), some (.int y2), some (.int y3), some (.int y4), some (.int y5), some (.int y6), some (.int (y3 &&& (((1 : Int32) <<< (y6 &&& 31)) ^^^ (-1))))], [], 0, 0, (ab_G mi ml))) rfl ⟨trivial, trivial, trivial, trivial, trivial, trivial, trivial, trivial, trivial, trivial, trivial, trivial⟩ ?_
    refine ab_wi (fun c => ?_) (fun c => ?_)
    · have h := h.1 c
      exact ab_wk 2 (f' := (103, [some (.ref 0), some (.int y1), some (.int y2), some (.int y3), some (.int y4), some (.int y5), some (.int (y6 + 1)), some (.int (y3 &&& (((1 : Int32) <<< (y6 &&& 31)) ^^^ (-1))))], [], 0, 0, (ab_G mi ml))) rfl ⟨trivial, trivial, trivial⟩ (ab_drop h (ab_lrc _ (ab_lrc _ (ab_lrc _ (ab_lrc _ (ab_lrc _ (ab_lrc _ (ab_lrc _ (ab_lrn _ ab_lr0)))))))))
    · have h := h.2 c
      obtain ⟨r21, mi19, ml20, hc, h⟩ := h
      refine ab_wc 6 (c := 32) (as := [.ref 25, .int (y3 &&& (((1 : Int32) <<< (y6 &&& 31)) ^^^ (-1)))]) (pc := 139) (ll := [some (.ref 0), some (.int y1), some (.int y2), some (.int y3), some (.int y4), some (.int y5), some (.int y6), some (.int (y3 &&& (((1 : Int32) <<< (y6 &&& 31)) ^^^ (-1))))]) (st := [.ref 9]) (c1 := 0) (s1 := 0) (g := (ab_G mi ml)) rfl ⟨trivial, trivial, trivial, trivial, trivial, trivial⟩ hc ?_
      obtain ⟨r24, mi22, ml23, hc, h⟩ := h
      refine ab_wc 2 (c := 52) (as := [.ref 9, .long r21, .int y4]) (pc := 144) (ll := [some (.ref 0), some (.int y1), some (.int y2), some (.int y3), some (.int y4), some (.int y5), some (.int y6), some (.int (y3 &&& (((1 : Int32) <<< (y6 &&& 31)) ^^^ (-1))))]) (st := []) (c1 := 0) (s1 := 0) (g := (ab_G mi19 ml20)) rfl ⟨trivial, trivial⟩ hc ?_
      refine ab_wk 2 (f' := (if r24 = y5 then 149 else 152, [some (.ref 0), some (.int y1), some (.int y2), some (.int y3), some (.int y4), some (.int y5), some (.int y6), some (.int (y3 &&& (((1 : Int32) <<< (y6 &&& 31)) ^^^ (-1))))], [], 0, 0, (ab_G mi22 ml23))) rfl ⟨trivial, trivial, trivial⟩ ?_
      refine ab_wi (fun c => ?_) (fun c => ?_)
      · have h := h.1 c
        exact ab_wr 2 rfl ⟨trivial, trivial⟩ h
      · have h := h.2 c
        exact ab_wk 2 (f' := (103, [some (.ref 0), some (.int y1), some (.int y2), some (.int y3), some (.int y4), some (.int y5), some (.int (y6 + 1)), some (.int (y3 &&& (((1 : Int32) <<< (y6 &&& 31)) ^^^ (-1))))], [], 0, 0, (ab_G mi22 ml23))) rfl ⟨trivial, trivial, trivial⟩ (ab_drop h (ab_lrc _ (ab_lrc _ (ab_lrc _ (ab_lrc _ (ab_lrc _ (ab_lrc _ (ab_lrc _ (ab_lrn _ ab_lr0)))))))))
  · have h := h.2 c
    exact ab_wr 2 rfl ⟨trivial, trivial⟩ h
theorem vc_X11_idle_0 {call : Nat → List Value → ab_S → Option Value → ab_S → Prop} {ro : ab_E} {Q : Option Value → ab_S → Prop} (x1 : Int32) (mi : Nat → Nat → Int32) (ml : Nat → Nat → Int64)
    (h : ∃ (r3 : Int32) (mi1 : Nat → Nat → Int32) (ml2 : Nat → Nat → Int64), call 134 [.ref 0, .int x1] (ab_G mi ml) (some (.int r3)) (ab_G mi1 ml2) ∧ (((r3 = 0) → (Q (some (.int (-1))) (ab_G mi1 ml2))) ∧ (¬ (r3 = 0) → (∃ (r6 : Int32) (mi4 : Nat → Nat → Int32) (ml5 : Nat → Nat → Int64), call 60 [.ref 9, .int x1] (ab_G mi1 ml2) (some (.int r6)) (ab_G mi4 ml5) ∧ (((r6 = 0) → (Q (some (.int 0)) (ab_G mi4 ml5))) ∧ (¬ (r6 = 0) → (Q (some (.int 1)) (ab_G mi4 ml5)))))))) :
    ab_W call ro 0 0 (ab_lk2 pl_X11_idle) Q (0, [some (.ref 0), some (.int x1)], [], 0, 0, ab_G mi ml) := by
  obtain ⟨r3, mi1, ml2, hc, h⟩ := h
  refine ab_wc 3 (c := 134) (as := [.ref 0, .int x1]) (pc := 5) (ll := [some (.ref 0), some (.int x1)]) (st := []) (c1 := 0) (s1 := 0) (g := (ab_G mi ml)) rfl ⟨trivial, trivial, trivial⟩ hc ?_
  refine ab_wk 1 (f' := (if r3 = 0 then 8 else 10, [some (.ref 0), some (.int x1)], [], 0, 0, (ab_G mi1 ml2))) rfl ⟨trivial, trivial⟩ ?_
  refine ab_wi (fun c => ?_) (fun c => ?_)
  · have h := h.1 c
    exact ab_wr 2 rfl ⟨trivial, trivial⟩ h
  · have h := h.2 c
    obtain ⟨r6, mi4, ml5, hc, h⟩ := h
    refine ab_wc 4 (c := 60) (as := [.ref 9, .int x1]) (pc := 18) (ll := [some (.ref 0), some (.int x1)]) (st := []) (c1 := 0) (s1 := 0) (g := (ab_G mi1 ml2)) rfl ⟨trivial, trivial, trivial, trivial⟩ hc ?_
    refine ab_wk 1 (f' := (if r6 = 0 then 25 else 21, [some (.ref 0), some (.int x1)], [], 0, 0, (ab_G mi4 ml5))) rfl ⟨trivial, trivial⟩ ?_
    refine ab_wi (fun c => ?_) (fun c => ?_)
    · have h := h.1 c
      exact ab_wr 2 rfl ⟨trivial, trivial⟩ h
    · have h := h.2 c
      exact ab_wr 3 rfl ⟨trivial, trivial, trivial⟩ h
theorem vc_X11_fewest_0 {call : Nat → List Value → ab_S → Option Value → ab_S → Prop} {ro : ab_E} {Q : Option Value → ab_S → Prop} (x1 : Int32) (mi : Nat → Nat → Int32) (ml : Nat → Nat → Int64)
    (h : ((x1 < 0) → (Q (some (.int (-1))) (ab_G mi ml))) ∧ (¬ (x1 < 0) → (((1 < x1) → (Q (some (.int (-1))) (ab_G mi ml))) ∧ (¬ (1 < x1) → (∃ (r3 : Int32) (mi1 : Nat → Nat → Int32) (ml2 : Nat → Nat → Int64), call 58 [.ref 9] (ab_G mi ml) (some (.int r3)) (ab_G mi1 ml2) ∧ (((x1 = 0) → (∃ (r6 : Int32) (mi4 : Nat → Nat → Int32) (ml5 : Nat → Nat → Int64), call 242 [.int r3] (ab_G mi1 ml2) (some (.int r6)) (ab_G mi4 ml5) ∧ (Q (some (.int r6)) (ab_G mi4 ml5)))) ∧ (¬ (x1 = 0) → (Q (some (.int r3)) (ab_G mi1 ml2))))))))) :
    ab_W call ro 0 0 (ab_lk2 pl_X11_fewest) Q (0, [some (.ref 0), some (.int x1), none], [], 0, 0, ab_G mi ml) := by
  refine ab_wk 2 (f' := (if x1 < 0 then 9 else 4, [some (.ref 0), some (.int x1), none], [], 0, 0, (ab_G mi ml))) rfl ⟨trivial, trivial, trivial⟩ ?_
  refine ab_wi (fun c => ?_) (fun c => ?_)
  · have h := h.1 c
    exact ab_wr 2 rfl ⟨trivial, trivial⟩ h
  · have h := h.2 c
    refine ab_wk 3 (f' := (if 1 < x1 then 9 else 11, [some (.ref 0), some (.int x1), none], [], 0, 0, (ab_G mi ml))) rfl ⟨trivial, trivial, trivial, trivial⟩ ?_
    refine ab_wi (fun c => ?_) (fun c => ?_)
    · have h := h.1 c
      exact ab_wr 2 rfl ⟨trivial, trivial⟩ h
    · have h := h.2 c
      obtain ⟨r3, mi1, ml2, hc, h⟩ := h
      refine ab_wc 3 (c := 58) (as := [.ref 9]) (pc := 18) (ll := [some (.ref 0), some (.int x1), none]) (st := []) (c1 := 0) (s1 := 0) (g := (ab_G mi ml)) rfl ⟨trivial, trivial, trivial⟩ hc ?_
      refine ab_wk 3 (f' := (if x1 = 0 then 23 else 30, [some (.ref 0), some (.int x1), some (.int r3)], [], 0, 0, (ab_G mi1 ml2))) rfl ⟨trivial, trivial, trivial, trivial⟩ ?_
      refine ab_wi (fun c => ?_) (fun c => ?_)
      · have h := h.1 c
        obtain ⟨r6, mi4, ml5, hc, h⟩ := h
        refine ab_wc 2 (c := 242) (as := [.int r3]) (pc := 27) (ll := [some (.ref 0), some (.int x1), some (.int r3)]) (st := []) (c1 := 0) (s1 := 0) (g := (ab_G mi1 ml2)) rfl ⟨trivial, trivial⟩ hc ?_
        exact ab_wr 2 rfl ⟨trivial, trivial⟩ h
      · have h := h.2 c
        exact ab_wr 2 rfl ⟨trivial, trivial⟩ h
theorem vc_X11_beside_0 {call : Nat → List Value → ab_S → Option Value → ab_S → Prop} {ro : ab_E} {Q : Option Value → ab_S → Prop} (x1 : Int32) (x2 : Int32) (mi : Nat → Nat → Int32) (ml : Nat → Nat → Int64)
    (h : ∃ (r3 : Int32) (mi1 : Nat → Nat → Int32) (ml2 : Nat → Nat → Int64), call 139 [.ref 0, .int x1] (ab_G mi ml) (some (.int r3)) (ab_G mi1 ml2) ∧ (∃ (r6 : Int32) (mi4 : Nat → Nat → Int32) (ml5 : Nat → Nat → Int64), call 139 [.ref 0, .int x2] (ab_G mi1 ml2) (some (.int r6)) (ab_G mi4 ml5) ∧ (((r3 = (-1)) → (Q (some (.int (-1))) (ab_G mi4 ml5))) ∧ (¬ (r3 = (-1)) → (((r6 = (-1)) → (Q (some (.int (-1))) (ab_G mi4 ml5))) ∧ (¬ (r6 = (-1)) → (Q (some (.int (r3 &&& (r6 ^^^ (-1))))) (ab_G mi4 ml5)))))))) :
    ab_W call ro 0 0 (ab_lk2 pl_X11_beside) Q (0, [some (.ref 0), some (.int x1), some (.int x2), none, none], [], 0, 0, ab_G mi ml) := by
  obtain ⟨r3, mi1, ml2, hc, h⟩ := h
  refine ab_wc 3 (c := 139) (as := [.ref 0, .int x1]) (pc := 5) (ll := [some (.ref 0), some (.int x1), some (.int x2), none, none]) (st := []) (c1 := 0) (s1 := 0) (g := (ab_G mi ml)) rfl ⟨trivial, trivial, trivial⟩ hc ?_
  obtain ⟨r6, mi4, ml5, hc, h⟩ := h
  refine ab_wc 4 (c := 139) (as := [.ref 0, .int x2]) (pc := 11) (ll := [some (.ref 0), some (.int x1), some (.int x2), some (.int r3), none]) (st := []) (c1 := 0) (s1 := 0) (g := (ab_G mi1 ml2)) rfl ⟨trivial, trivial, trivial, trivial⟩ hc ?_
  refine ab_wk 4 (f' := (if r3 = (-1) then 24 else 18, [some (.ref 0), some (.int x1), some (.int x2), some (.int r3), some (.int r6)], [], 0, 0, (ab_G mi4 ml5))) rfl ⟨trivial, trivial, trivial, trivial, trivial⟩ ?_
  refine ab_wi (fun c => ?_) (fun c => ?_)
  · have h := h.1 c
    exact ab_wr 2 rfl ⟨trivial, trivial⟩ h
  · have h := h.2 c
    refine ab_wk 3 (f' := (if r6 = (-1) then 24 else 26, [some (.ref 0), some (.int x1), some (.int x2), some (.int r3), some (.int r6)], [], 0, 0, (ab_G mi4 ml5))) rfl ⟨trivial, trivial, trivial, trivial⟩ ?_
    refine ab_wi (fun c => ?_) (fun c => ?_)
    · have h := h.1 c
      exact ab_wr 2 rfl ⟨trivial, trivial⟩ h
    · have h := h.2 c
      exact ab_wr 6 rfl ⟨trivial, trivial, trivial, trivial, trivial, trivial⟩ h
theorem vc_X11_count_0 {call : Nat → List Value → ab_S → Option Value → ab_S → Prop} {ro : ab_E} {Q : Option Value → ab_S → Prop} (x1 : Int32) (mi : Nat → Nat → Int32) (ml : Nat → Nat → Int64)
    (h : (((x1 = 0) → (Q (some (.int (mi 1 0))) (ab_G mi ml))) ∧ (¬ (x1 = 0) → (((x1 = 1) → (∃ (r3 : Int32) (mi1 : Nat → Nat → Int32) (ml2 : Nat → Nat → Int64), call 13 [.ref 1] (ab_G mi ml) (some (.int r3)) (ab_G mi1 ml2) ∧ (Q (some (.int r3)) (ab_G mi1 ml2)))) ∧ (¬ (x1 = 1) → (((x1 = 2) → (Q (some (.int (mi 12 5))) (ab_G mi ml))) ∧ (¬ (x1 = 2) → (((x1 = 3) → (∃ (r6 : Int32) (mi4 : Nat → Nat → Int32) (ml5 : Nat → Nat → Int64), call 13 [.ref 1] (ab_G mi ml) (some (.int r6)) (ab_G mi4 ml5) ∧ (∃ (r9 : Int32) (mi7 : Nat → Nat → Int32) (ml8 : Nat → Nat → Int64), call 98 [.ref 12, .int r6] (ab_G mi4 ml5) (some (.int r9)) (ab_G mi7 ml8) ∧ (Q (some (.int r9)) (ab_G mi7 ml8))))) ∧ (¬ (x1 = 3) → (((x1 = 4) → (∃ (mi10 : Nat → Nat → Int32) (ml11 : Nat → Nat → Int64), call 138 [.ref 0] (ab_G mi ml) none (ab_G mi10 ml11) ∧ (Q (some (.int (mi10 25 4))) (ab_G mi10 ml11)))) ∧ (¬ (x1 = 4) → (((x1 = 5) → (Q (some (.int (mi 18 2))) (ab_G mi ml))) ∧ (¬ (x1 = 5) → (((x1 = 6) → (∃ (r14 : Int32) (mi12 : Nat → Nat → Int32) (ml13 : Nat → Nat → Int64), call 13 [.ref 1] (ab_G mi ml) (some (.int r14)) (ab_G mi12 ml13) ∧ (∃ (r17 : Int32) (mi15 : Nat → Nat → Int32) (ml16 : Nat → Nat → Int64), call 17 [.ref 18, .int r14] (ab_G mi12 ml13) (some (.int r17)) (ab_G mi15 ml16) ∧ (Q (some (.int r17)) (ab_G mi15 ml16))))) ∧ (¬ (x1 = 6) → (((x1 = 7) → (Q (some (.int (mi 2 2))) (ab_G mi ml))) ∧ (¬ (x1 = 7) → (((x1 = 8) → (∃ (r20 : Int32) (mi18 : Nat → Nat → Int32) (ml19 : Nat → Nat → Int64), call 99 [.ref 12] (ab_G mi ml) (some (.int r20)) (ab_G mi18 ml19) ∧ (Q (some (.int r20)) (ab_G mi18 ml19)))) ∧ (¬ (x1 = 8) → (((x1 = 9) → (Q (some (.int (mi 18 6))) (ab_G mi ml))) ∧ (¬ (x1 = 9) → (False)))))))))))))))))))))) :
    ab_W call ro 0 0 (ab_lk2 pl_X11_count) Q (0, [some (.ref 0), some (.int x1)], [], 0, 0, ab_G mi ml) := by
  refine ab_wk 2 (f' := (ab_sw x1 [(0, 56), (1, 64), (2, 72), (3, 80), (4, 95), (5, 107), (6, 115), (7, 130), (8, 138), (9, 146)] 154, [some (.ref 0), some (.int x1)], [], 0, 0, (ab_G mi ml))) rfl ⟨trivial, trivial, trivial⟩ ?_
  refine ab_wi (fun c => ?_) (fun c => ?_)
  · have h := h.1 c
    exact ab_wr 4 rfl ⟨trivial, trivial, trivial, trivial⟩ h
  · have h := h.2 c
    refine ab_wi (fun c => ?_) (fun c => ?_)
    · have h := h.1 c
      obtain ⟨r3, mi1, ml2, hc, h⟩ := h
      refine ab_wc 3 (c := 13) (as := [.ref 1]) (pc := 71) (ll := [some (.ref 0), some (.int x1)]) (st := []) (c1 := 0) (s1 := 0) (g := (ab_G mi ml)) rfl ⟨trivial, trivial, trivial⟩ hc ?_
      exact ab_wr 1 rfl trivial h
    · have h := h.2 c
      refine ab_wi (fun c => ?_) (fun c => ?_)
      · have h := h.1 c
        exact ab_wr 4 rfl ⟨trivial, trivial, trivial, trivial⟩ h
      · have h := h.2 c
        refine ab_wi (fun c => ?_) (fun c => ?_)
        · have h := h.1 c
          obtain ⟨r6, mi4, ml5, hc, h⟩ := h
          refine ab_wc 5 (c := 13) (as := [.ref 1]) (pc := 91) (ll := [some (.ref 0), some (.int x1)]) (st := [.ref 12]) (c1 := 0) (s1 := 0) (g := (ab_G mi ml)) rfl ⟨trivial, trivial, trivial, trivial, trivial⟩ hc ?_
          obtain ⟨r9, mi7, ml8, hc, h⟩ := h
          refine ab_wc 1 (c := 98) (as := [.ref 12, .int r6]) (pc := 94) (ll := [some (.ref 0), some (.int x1)]) (st := []) (c1 := 0) (s1 := 0) (g := (ab_G mi4 ml5)) rfl trivial hc ?_
          exact ab_wr 1 rfl trivial h
        · have h := h.2 c
          refine ab_wi (fun c => ?_) (fun c => ?_)
          · have h := h.1 c
            obtain ⟨mi10, ml11, hc, h⟩ := h
            refine ab_wc 2 (c := 138) (as := [.ref 0]) (pc := 99) (ll := [some (.ref 0), some (.int x1)]) (st := []) (c1 := 0) (s1 := 0) (g := (ab_G mi ml)) rfl ⟨trivial, trivial⟩ hc ?_
            exact ab_wr 4 rfl ⟨trivial, trivial, trivial, trivial⟩ h
          · have h := h.2 c
            refine ab_wi (fun c => ?_) (fun c => ?_)
            · have h := h.1 c
              exact ab_wr 4 rfl ⟨trivial, trivial, trivial, trivial⟩ h
            · have h := h.2 c
              refine ab_wi (fun c => ?_) (fun c => ?_)
              · have h := h.1 c
                obtain ⟨r14, mi12, ml13, hc, h⟩ := h
                refine ab_wc 5 (c := 13) (as := [.ref 1]) (pc := 126) (ll := [some (.ref 0), some (.int x1)]) (st := [.ref 18]) (c1 := 0) (s1 := 0) (g := (ab_G mi ml)) rfl ⟨trivial, trivial, trivial, trivial, trivial⟩ hc ?_
                obtain ⟨r17, mi15, ml16, hc, h⟩ := h
                refine ab_wc 1 (c := 17) (as := [.ref 18, .int r14]) (pc := 129) (ll := [some (.ref 0), some (.int x1)]) (st := []) (c1 := 0) (s1 := 0) (g := (ab_G mi12 ml13)) rfl trivial hc ?_
                exact ab_wr 1 rfl trivial h
              · have h := h.2 c
                refine ab_wi (fun c => ?_) (fun c => ?_)
                · have h := h.1 c
                  exact ab_wr 4 rfl ⟨trivial, trivial, trivial, trivial⟩ h
                · have h := h.2 c
                  refine ab_wi (fun c => ?_) (fun c => ?_)
                  · have h := h.1 c
                    obtain ⟨r20, mi18, ml19, hc, h⟩ := h
                    refine ab_wc 3 (c := 99) (as := [.ref 12]) (pc := 145) (ll := [some (.ref 0), some (.int x1)]) (st := []) (c1 := 0) (s1 := 0) (g := (ab_G mi ml)) rfl ⟨trivial, trivial, trivial⟩ hc ?_
                    exact ab_wr 1 rfl trivial h
                  · have h := h.2 c
                    refine ab_wi (fun c => ?_) (fun c => ?_)
                    · have h := h.1 c
                      exact ab_wr 4 rfl ⟨trivial, trivial, trivial, trivial⟩ h
                    · have h := h.2 c
                      exact h.elim
theorem vc_X11_isLine_0 {call : Nat → List Value → ab_S → Option Value → ab_S → Prop} {ro : ab_E} {Q : Option Value → ab_S → Prop} (x1 : Int32) (mi : Nat → Nat → Int32) (ml : Nat → Nat → Int64)
    (h : ((x1 < 0) → (Q (some (.int 0)) (ab_G mi ml))) ∧ (¬ (x1 < 0) → (((x1 < (mi 9 3)) → (Q (some (.int 1)) (ab_G mi ml))) ∧ (¬ (x1 < (mi 9 3)) → (Q (some (.int 0)) (ab_G mi ml)))))) :
    ab_W call ro 0 0 (ab_lk2 pl_X11_isLine) Q (0, [some (.ref 0), some (.int x1)], [], 0, 0, ab_G mi ml) := by
  refine ab_wk 2 (f' := (if x1 < 0 then 19 else 4, [some (.ref 0), some (.int x1)], [], 0, 0, (ab_G mi ml))) rfl ⟨trivial, trivial, trivial⟩ ?_
  refine ab_wi (fun c => ?_) (fun c => ?_)
  · have h := h.1 c
    exact ab_wr 2 rfl ⟨trivial, (Or.inl rfl)⟩ h
  · have h := h.2 c
    refine ab_wk 5 (f' := (if x1 < (mi 9 3) then 15 else 19, [some (.ref 0), some (.int x1)], [], 0, 0, (ab_G mi ml))) rfl ⟨trivial, trivial, trivial, trivial, trivial, trivial⟩ ?_
    refine ab_wi (fun c => ?_) (fun c => ?_)
    · have h := h.1 c
      exact ab_wr 3 rfl ⟨trivial, trivial, (Or.inr rfl)⟩ h
    · have h := h.2 c
      exact ab_wr 2 rfl ⟨trivial, (Or.inl rfl)⟩ h
theorem vc_X11_isWish_0 {call : Nat → List Value → ab_S → Option Value → ab_S → Prop} {ro : ab_E} {Q : Option Value → ab_S → Prop} (x1 : Int32) (mi : Nat → Nat → Int32) (ml : Nat → Nat → Int64)
    (h : ((x1 < 0) → (Q (some (.int 0)) (ab_G mi ml))) ∧ (¬ (x1 < 0) → (((x1 < (mi 12 5)) → (Q (some (.int 1)) (ab_G mi ml))) ∧ (¬ (x1 < (mi 12 5)) → (Q (some (.int 0)) (ab_G mi ml)))))) :
    ab_W call ro 0 0 (ab_lk2 pl_X11_isWish) Q (0, [some (.ref 0), some (.int x1)], [], 0, 0, ab_G mi ml) := by
  refine ab_wk 2 (f' := (if x1 < 0 then 19 else 4, [some (.ref 0), some (.int x1)], [], 0, 0, (ab_G mi ml))) rfl ⟨trivial, trivial, trivial⟩ ?_
  refine ab_wi (fun c => ?_) (fun c => ?_)
  · have h := h.1 c
    exact ab_wr 2 rfl ⟨trivial, (Or.inl rfl)⟩ h
  · have h := h.2 c
    refine ab_wk 5 (f' := (if x1 < (mi 12 5) then 15 else 19, [some (.ref 0), some (.int x1)], [], 0, 0, (ab_G mi ml))) rfl ⟨trivial, trivial, trivial, trivial, trivial, trivial⟩ ?_
    refine ab_wi (fun c => ?_) (fun c => ?_)
    · have h := h.1 c
      exact ab_wr 3 rfl ⟨trivial, trivial, (Or.inr rfl)⟩ h
    · have h := h.2 c
      exact ab_wr 2 rfl ⟨trivial, (Or.inl rfl)⟩ h
theorem vc_X11_isGroup_0 {call : Nat → List Value → ab_S → Option Value → ab_S → Prop} {ro : ab_E} {Q : Option Value → ab_S → Prop} (x1 : Int32) (mi : Nat → Nat → Int32) (ml : Nat → Nat → Int64)
    (h : ((x1 < 0) → (Q (some (.int 0)) (ab_G mi ml))) ∧ (¬ (x1 < 0) → (((x1 < (mi 25 4)) → (Q (some (.int 1)) (ab_G mi ml))) ∧ (¬ (x1 < (mi 25 4)) → (Q (some (.int 0)) (ab_G mi ml)))))) :
    ab_W call ro 0 0 (ab_lk2 pl_X11_isGroup) Q (0, [some (.ref 0), some (.int x1)], [], 0, 0, ab_G mi ml) := by
  refine ab_wk 2 (f' := (if x1 < 0 then 19 else 4, [some (.ref 0), some (.int x1)], [], 0, 0, (ab_G mi ml))) rfl ⟨trivial, trivial, trivial⟩ ?_
  refine ab_wi (fun c => ?_) (fun c => ?_)
  · have h := h.1 c
    exact ab_wr 2 rfl ⟨trivial, (Or.inl rfl)⟩ h
  · have h := h.2 c
    refine ab_wk 5 (f' := (if x1 < (mi 25 4) then 15 else 19, [some (.ref 0), some (.int x1)], [], 0, 0, (ab_G mi ml))) rfl ⟨trivial, trivial, trivial, trivial, trivial, trivial⟩ ?_
    refine ab_wi (fun c => ?_) (fun c => ?_)
    · have h := h.1 c
      exact ab_wr 3 rfl ⟨trivial, trivial, (Or.inr rfl)⟩ h
    · have h := h.2 c
      exact ab_wr 2 rfl ⟨trivial, (Or.inl rfl)⟩ h
theorem vc_X11_isHouse_0 {call : Nat → List Value → ab_S → Option Value → ab_S → Prop} {ro : ab_E} {Q : Option Value → ab_S → Prop} (x0 : Int32) (mi : Nat → Nat → Int32) (ml : Nat → Nat → Int64)
    (h : ((x0 < 0) → (Q (some (.int 0)) (ab_G mi ml))) ∧ (¬ (x0 < 0) → (((x0 < 7) → (Q (some (.int 1)) (ab_G mi ml))) ∧ (¬ (x0 < 7) → (Q (some (.int 0)) (ab_G mi ml)))))) :
    ab_W call ro 0 0 (ab_lk2 pl_X11_isHouse) Q (0, [some (.int x0)], [], 0, 0, ab_G mi ml) := by
  refine ab_wk 2 (f' := (if x0 < 0 then 14 else 4, [some (.int x0)], [], 0, 0, (ab_G mi ml))) rfl ⟨trivial, trivial, trivial⟩ ?_
  refine ab_wi (fun c => ?_) (fun c => ?_)
  · have h := h.1 c
    exact ab_wr 2 rfl ⟨trivial, (Or.inl rfl)⟩ h
  · have h := h.2 c
    refine ab_wk 3 (f' := (if x0 < 7 then 10 else 14, [some (.int x0)], [], 0, 0, (ab_G mi ml))) rfl ⟨trivial, trivial, trivial, trivial⟩ ?_
    refine ab_wi (fun c => ?_) (fun c => ?_)
    · have h := h.1 c
      exact ab_wr 3 rfl ⟨trivial, trivial, (Or.inr rfl)⟩ h
    · have h := h.2 c
      exact ab_wr 2 rfl ⟨trivial, (Or.inl rfl)⟩ h
theorem vc_X11_settle_0 {call : Nat → List Value → ab_S → Option Value → ab_S → Prop} {ro : ab_E} {Q : Option Value → ab_S → Prop}  (mi : Nat → Nat → Int32) (ml : Nat → Nat → Int64)
    (h : (((mi 0 12) = 0) → (Q none (ab_G mi ml))) ∧ (¬ ((mi 0 12) = 0) → (∃ (r3 : Int32) (mi1 : Nat → Nat → Int32) (ml2 : Nat → Nat → Int64), call 13 [.ref 1] (ab_G mi ml) (some (.int r3)) (ab_G mi1 ml2) ∧ (∃ (mi4 : Nat → Nat → Int32) (ml5 : Nat → Nat → Int64), call 25 [.ref 25, .int r3] (ab_G mi1 ml2) none (ab_G mi4 ml5) ∧ (Q none (ab_G (ab_ui mi4 0 12 0) ml5)))))) :
    ab_W call ro 0 0 (ab_lk2 pl_X11_settle) Q (0, [some (.ref 0)], [], 0, 0, ab_G mi ml) := by
  refine ab_wk 3 (f' := (if (mi 0 12) = 0 then 26 else 7, [some (.ref 0)], [], 0, 0, (ab_G mi ml))) rfl ⟨trivial, trivial, trivial, trivial⟩ ?_
  refine ab_wi (fun c => ?_) (fun c => ?_)
  · have h := h.1 c
    exact ab_wr 1 rfl trivial h
  · have h := h.2 c
    obtain ⟨r3, mi1, ml2, hc, h⟩ := h
    refine ab_wc 5 (c := 13) (as := [.ref 1]) (pc := 18) (ll := [some (.ref 0)]) (st := [.ref 25]) (c1 := 0) (s1 := 0) (g := (ab_G mi ml)) rfl ⟨trivial, trivial, trivial, trivial, trivial⟩ hc ?_
    obtain ⟨mi4, ml5, hc, h⟩ := h
    refine ab_wc 1 (c := 25) (as := [.ref 25, .int r3]) (pc := 21) (ll := [some (.ref 0)]) (st := []) (c1 := 0) (s1 := 0) (g := (ab_G mi1 ml2)) rfl trivial hc ?_
    exact ab_wr 4 rfl ⟨trivial, trivial, (Or.inl rfl), trivial⟩ h
theorem vc_X11_draftBy_0 {call : Nat → List Value → ab_S → Option Value → ab_S → Prop} {ro : ab_E} {Q : Option Value → ab_S → Prop} (x1 : Int32) (mi : Nat → Nat → Int32) (ml : Nat → Nat → Int64)
    (h : ((x1 < 0) → (Q (some (.int (-1))) (ab_G mi ml))) ∧ (¬ (x1 < 0) → (((3 < x1) → (Q (some (.int (-1))) (ab_G mi ml))) ∧ (¬ (3 < x1) → (∃ (mi1 : Nat → Nat → Int32) (ml2 : Nat → Nat → Int64), call 138 [.ref 0] (ab_G mi ml) none (ab_G mi1 ml2) ∧ (∃ (r5 : Int32) (mi3 : Nat → Nat → Int32) (ml4 : Nat → Nat → Int64), call 13 [.ref 1] (ab_G mi1 ml2) (some (.int r5)) (ab_G mi3 ml4) ∧ (∃ (r8 : Int32) (mi6 : Nat → Nat → Int32) (ml7 : Nat → Nat → Int64), call 21 [.ref 34, .int x1, .int r5] (ab_G mi3 ml4) (some (.int r8)) (ab_G mi6 ml7) ∧ (Q (some (.int r8)) (ab_G mi6 ml7))))))))) :
    ab_W call ro 0 0 (ab_lk2 pl_X11_draftBy) Q (0, [some (.ref 0), some (.int x1)], [], 0, 0, ab_G mi ml) := by
  refine ab_wk 2 (f' := (if x1 < 0 then 9 else 4, [some (.ref 0), some (.int x1)], [], 0, 0, (ab_G mi ml))) rfl ⟨trivial, trivial, trivial⟩ ?_
  refine ab_wi (fun c => ?_) (fun c => ?_)
  · have h := h.1 c
    exact ab_wr 2 rfl ⟨trivial, trivial⟩ h
  · have h := h.2 c
    refine ab_wk 3 (f' := (if 3 < x1 then 9 else 11, [some (.ref 0), some (.int x1)], [], 0, 0, (ab_G mi ml))) rfl ⟨trivial, trivial, trivial, trivial⟩ ?_
    refine ab_wi (fun c => ?_) (fun c => ?_)
    · have h := h.1 c
      exact ab_wr 2 rfl ⟨trivial, trivial⟩ h
    · have h := h.2 c
      obtain ⟨mi1, ml2, hc, h⟩ := h
      refine ab_wc 2 (c := 138) (as := [.ref 0]) (pc := 15) (ll := [some (.ref 0), some (.int x1)]) (st := []) (c1 := 0) (s1 := 0) (g := (ab_G mi ml)) rfl ⟨trivial, trivial⟩ hc ?_
      obtain ⟨r5, mi3, ml4, hc, h⟩ := h
      refine ab_wc 6 (c := 13) (as := [.ref 1]) (pc := 27) (ll := [some (.ref 0), some (.int x1)]) (st := [.int x1, .ref 34]) (c1 := 0) (s1 := 0) (g := (ab_G mi1 ml2)) rfl ⟨trivial, trivial, trivial, trivial, trivial, trivial⟩ hc ?_
      obtain ⟨r8, mi6, ml7, hc, h⟩ := h
      refine ab_wc 1 (c := 21) (as := [.ref 34, .int x1, .int r5]) (pc := 30) (ll := [some (.ref 0), some (.int x1)]) (st := []) (c1 := 0) (s1 := 0) (g := (ab_G mi3 ml4)) rfl trivial hc ?_
      exact ab_wr 1 rfl trivial h
theorem vc_X11_rivalIn_0 {call : Nat → List Value → ab_S → Option Value → ab_S → Prop} {ro : ab_E} {Q : Option Value → ab_S → Prop} (x1 : Int32) (x2 : Int32) (mi : Nat → Nat → Int32) (ml : Nat → Nat → Int64)
    (h : ab_W call ro 0 0 (ab_lk2 pl_X11_rivalIn) Q (2, [some (.ref 0), some (.int x1), some (.int x2), some (.int 0)], [], 0, 0, (ab_G mi ml))) :
    ab_W call ro 0 0 (ab_lk2 pl_X11_rivalIn) Q (0, [some (.ref 0), some (.int x1), some (.int x2), none], [], 0, 0, ab_G mi ml) := by
  exact ab_wk 2 (f' := (2, [some (.ref 0), some (.int x1), some (.int x2), some (.int 0)], [], 0, 0, (ab_G mi ml))) rfl ⟨trivial, trivial, trivial⟩ h
theorem vc_X11_rivalIn_2 {call : Nat → List Value → ab_S → Option Value → ab_S → Prop} {ro : ab_E} {Q : Option Value → ab_S → Prop} (y1 : Int32) (y2 : Int32) (y3 : Int32) (mi : Nat → Nat → Int32) (ml : Nat → Nat → Int64)
    (h : ((y3 < 12) → (((((y1 >>> (y3 &&& 31)) &&& 1) = 0) → (ab_W call ro 0 0 (ab_lk2 pl_X11_rivalIn) Q (2, [some (.ref 0), some (.int y1), some (.int y2), some (.int (y3 + 1))], [], 0, 0, (ab_G mi ml)))) ∧ (¬ (((y1 >>> (y3 &&& 31)) &&& 1) = 0) → (((y3 = y2) → (ab_W call ro 0 0 (ab_lk2 pl_X11_rivalIn) Q (2, [some (.ref 0), some (.int y1), some (.int y2), some (.int (y3 + 1))], [], 0, 0, (ab_G mi ml)))) ∧ (¬ (y3 = y2) → (∃ (r3 : Int32) (mi1 : Nat → Nat → Int32) (ml2 : Nat → Nat → Int64), call 33 [.ref 25, .int y2, .int y3] (ab_G mi ml) (some (.int r3)) (ab_G mi1 ml2) ∧ (((r3 = 0) → (ab_W call ro 0 0 (ab_lk2 pl_X11_rivalIn) Q (2, [some (.ref 0), some (.int y1), some (.int y2), some (.int (y3 + 1))], [], 0, 0, (ab_G mi1 ml2)))) ∧ (¬ (r3 = 0) → (Q (some (.int y3)) (ab_G mi1 ml2)))))))))) ∧ (¬ (y3 < 12) → (Q (some (.int (-1))) (ab_G mi ml)))) :
    ab_W call ro 0 0 (ab_lk2 pl_X11_rivalIn) Q (2, [some (.ref 0), some (.int y1), some (.int y2), some (.int y3)], [], 0, 0, ab_G mi ml) := by
  refine ab_wk 3 (f' := (if y3 < 12 then 8 else 41, [some (.ref 0), some (.int y1), some (.int y2), some (.int y3)], [], 0, 0, (ab_G mi ml))) rfl ⟨trivial, trivial, trivial, trivial⟩ ?_
  refine ab_wi (fun c => ?_) (fun c => ?_)
  · have h := h.1 c
    refine ab_wk 6 (f' := (if ((y1 >>> (y3 &&& 31)) &&& 1) = 0 then 35 else 16, [some (.ref 0), some (.int y1), some (.int y2), some (.int y3)], [], 0, 0, (ab_G mi ml))) rfl ⟨trivial, trivial, trivial, trivial, trivial, trivial, trivial⟩ ?_
    refine ab_wi (fun c => ?_) (fun c => ?_)
    · have h := h.1 c
      exact ab_wk 2 (f' := (2, [some (.ref 0), some (.int y1), some (.int y2), some (.int (y3 + 1))], [], 0, 0, (ab_G mi ml))) rfl ⟨trivial, trivial, trivial⟩ h
    · have h := h.2 c
      refine ab_wk 3 (f' := (if y3 = y2 then 35 else 21, [some (.ref 0), some (.int y1), some (.int y2), some (.int y3)], [], 0, 0, (ab_G mi ml))) rfl ⟨trivial, trivial, trivial, trivial⟩ ?_
      refine ab_wi (fun c => ?_) (fun c => ?_)
      · have h := h.1 c
        exact ab_wk 2 (f' := (2, [some (.ref 0), some (.int y1), some (.int y2), some (.int (y3 + 1))], [], 0, 0, (ab_G mi ml))) rfl ⟨trivial, trivial, trivial⟩ h
      · have h := h.2 c
        obtain ⟨r3, mi1, ml2, hc, h⟩ := h
        refine ab_wc 5 (c := 33) (as := [.ref 25, .int y2, .int y3]) (pc := 30) (ll := [some (.ref 0), some (.int y1), some (.int y2), some (.int y3)]) (st := []) (c1 := 0) (s1 := 0) (g := (ab_G mi ml)) rfl ⟨trivial, trivial, trivial, trivial, trivial⟩ hc ?_
        refine ab_wk 1 (f' := (if r3 = 0 then 35 else 33, [some (.ref 0), some (.int y1), some (.int y2), some (.int y3)], [], 0, 0, (ab_G mi1 ml2))) rfl ⟨trivial, trivial⟩ ?_
        refine ab_wi (fun c => ?_) (fun c => ?_)
        · have h := h.1 c
          exact ab_wk 2 (f' := (2, [some (.ref 0), some (.int y1), some (.int y2), some (.int (y3 + 1))], [], 0, 0, (ab_G mi1 ml2))) rfl ⟨trivial, trivial, trivial⟩ h
        · have h := h.2 c
          exact ab_wr 2 rfl ⟨trivial, trivial⟩ h
  · have h := h.2 c
    exact ab_wr 2 rfl ⟨trivial, trivial⟩ h
theorem vc_X11_reasonAgainst_0 {call : Nat → List Value → ab_S → Option Value → ab_S → Prop} {ro : ab_E} {Q : Option Value → ab_S → Prop} (x1 : Int32) (x2 : Int32) (x3 : Int32) (mi : Nat → Nat → Int32) (ml : Nat → Nat → Int64)
    (h : (((x1 &&& ((1 : Int32) <<< (x2 &&& 31))) = 0) → (∃ (r3 : Int32) (mi1 : Nat → Nat → Int32) (ml2 : Nat → Nat → Int64), call 34 [.ref 25, .int ((1 : Int32) <<< (x2 &&& 31))] (ab_G mi ml) (some (.int r3)) (ab_G mi1 ml2) ∧ (((r3 = 0) → (Q (some (.int 1)) (ab_G mi1 ml2))) ∧ (¬ (r3 = 0) → (((x3 = (-1)) → (∃ (r6 : Int32) (mi4 : Nat → Nat → Int32) (ml5 : Nat → Nat → Int64), call 34 [.ref 25, .int (x1 ||| ((1 : Int32) <<< (x2 &&& 31)))] (ab_G mi1 ml2) (some (.int r6)) (ab_G mi4 ml5) ∧ (((r6 = 0) → (Q (some (.int 3)) (ab_G mi4 ml5))) ∧ (¬ (r6 = 0) → (Q (some (.int 4)) (ab_G mi4 ml5)))))) ∧ (¬ (x3 = (-1)) → (Q (some (.int 2)) (ab_G mi1 ml2)))))))) ∧ (¬ ((x1 &&& ((1 : Int32) <<< (x2 &&& 31))) = 0) → (Q (some (.int 0)) (ab_G mi ml)))) :
    ab_W call ro 0 0 (ab_lk2 pl_X11_reasonAgainst) Q (0, [some (.ref 0), some (.int x1), some (.int x2), some (.int x3), none], [], 0, 0, ab_G mi ml) := by
  refine ab_wk 8 (f' := (if (x1 &&& ((1 : Int32) <<< (x2 &&& 31))) = 0 then 14 else 12, [some (.ref 0), some (.int x1), some (.int x2), some (.int x3), some (.int ((1 : Int32) <<< (x2 &&& 31)))], [], 0, 0, (ab_G mi ml))) rfl ⟨trivial, trivial, trivial, trivial, trivial, trivial, trivial, trivial, trivial⟩ ?_
  refine ab_wi (fun c => ?_) (fun c => ?_)
  · have h := h.1 c
    obtain ⟨r3, mi1, ml2, hc, h⟩ := h
    refine ab_wc 4 (c := 34) (as := [.ref 25, .int ((1 : Int32) <<< (x2 &&& 31))]) (pc := 23) (ll := [some (.ref 0), some (.int x1), some (.int x2), some (.int x3), some (.int ((1 : Int32) <<< (x2 &&& 31)))]) (st := []) (c1 := 0) (s1 := 0) (g := (ab_G mi ml)) rfl ⟨trivial, trivial, trivial, trivial⟩ hc ?_
    refine ab_wk 1 (f' := (if r3 = 0 then 26 else 28, [some (.ref 0), some (.int x1), some (.int x2), some (.int x3), some (.int ((1 : Int32) <<< (x2 &&& 31)))], [], 0, 0, (ab_G mi1 ml2))) rfl ⟨trivial, trivial⟩ ?_
    refine ab_wi (fun c => ?_) (fun c => ?_)
    · have h := h.1 c
      exact ab_wr 2 rfl ⟨trivial, trivial⟩ h
    · have h := h.2 c
      refine ab_wk 3 (f' := (if x3 = (-1) then 35 else 33, [some (.ref 0), some (.int x1), some (.int x2), some (.int x3), some (.int ((1 : Int32) <<< (x2 &&& 31)))], [], 0, 0, (ab_G mi1 ml2))) rfl ⟨trivial, trivial, trivial, trivial⟩ ?_
      refine ab_wi (fun c => ?_) (fun c => ?_)
      · have h := h.1 c
        obtain ⟨r6, mi4, ml5, hc, h⟩ := h
        refine ab_wc 6 (c := 34) (as := [.ref 25, .int (x1 ||| ((1 : Int32) <<< (x2 &&& 31)))]) (pc := 46) (ll := [some (.ref 0), some (.int x1), some (.int x2), some (.int x3), some (.int ((1 : Int32) <<< (x2 &&& 31)))]) (st := []) (c1 := 0) (s1 := 0) (g := (ab_G mi1 ml2)) rfl ⟨trivial, trivial, trivial, trivial, trivial, trivial⟩ hc ?_
        refine ab_wk 1 (f' := (if r6 = 0 then 53 else 49, [some (.ref 0), some (.int x1), some (.int x2), some (.int x3), some (.int ((1 : Int32) <<< (x2 &&& 31)))], [], 0, 0, (ab_G mi4 ml5))) rfl ⟨trivial, trivial⟩ ?_
        refine ab_wi (fun c => ?_) (fun c => ?_)
        · have h := h.1 c
          exact ab_wr 2 rfl ⟨trivial, trivial⟩ h
        · have h := h.2 c
          exact ab_wr 3 rfl ⟨trivial, trivial, trivial⟩ h
      · have h := h.2 c
        exact ab_wr 2 rfl ⟨trivial, trivial⟩ h
  · have h := h.2 c
    exact ab_wr 2 rfl ⟨trivial, trivial⟩ h
theorem vc_X11_casesLost_0 {call : Nat → List Value → ab_S → Option Value → ab_S → Prop} {ro : ab_E} {Q : Option Value → ab_S → Prop} (x1 : Int64) (x3 : Int64) (mi : Nat → Nat → Int32) (ml : Nat → Nat → Int64)
    (h : ab_W call ro 0 0 (ab_lk2 pl_X11_casesLost) Q (6, [some (.ref 0), some (.long x1), none, some (.long x3), none, some (.int 0), some (.int 0), none], [], 0, 0, (ab_G mi ml))) :
    ab_W call ro 0 0 (ab_lk2 pl_X11_casesLost) Q (0, [some (.ref 0), some (.long x1), none, some (.long x3), none, none, none, none], [], 0, 0, ab_G mi ml) := by
  exact ab_wk 4 (f' := (6, [some (.ref 0), some (.long x1), none, some (.long x3), none, some (.int 0), some (.int 0), none], [], 0, 0, (ab_G mi ml))) rfl ⟨trivial, trivial, trivial, trivial, trivial⟩ h
theorem vc_X11_casesLost_6 {call : Nat → List Value → ab_S → Option Value → ab_S → Prop} {ro : ab_E} {Q : Option Value → ab_S → Prop} (y1 : Int64) (y3 : Int64) (y5 : Int32) (y6 : Int32) (mi : Nat → Nat → Int32) (ml : Nat → Nat → Int64)
    (h : ((y6 < (mi 18 2)) → (vp_in y6 40 ∧ (vp_in y6 40 ∧ (∃ (r3 : Int32) (mi1 : Nat → Nat → Int32) (ml2 : Nat → Nat → Int64), call 13 [.ref 1] (ab_G mi ml) (some (.int r3)) (ab_G mi1 ml2) ∧ (((r3 < (mi 20 (y6).toNatClampNeg)) → (ab_W call ro 0 0 (ab_lk2 pl_X11_casesLost) Q (6, [some (.ref 0), some (.long y1), none, some (.long y3), none, some (.int y5), some (.int (y6 + 1)), none], [], 0, 0, (ab_G mi1 ml2)))) ∧ (¬ (r3 < (mi 20 (y6).toNatClampNeg)) → (∃ (r6 : Int32) (mi4 : Nat → Nat → Int32) (ml5 : Nat → Nat → Int64), call 52 [.ref 9, .long y1, .int (mi 19 (y6).toNatClampNeg)] (ab_G mi1 ml2) (some (.int r6)) (ab_G mi4 ml5) ∧ (((r6 = 0) → (ab_W call ro 0 0 (ab_lk2 pl_X11_casesLost) Q (6, [some (.ref 0), some (.long y1), none, some (.long y3), none, some (.int y5), some (.int (y6 + 1)), none], [], 0, 0, (ab_G mi4 ml5)))) ∧ (¬ (r6 = 0) → (∃ (r9 : Int32) (mi7 : Nat → Nat → Int32) (ml8 : Nat → Nat → Int64), call 52 [.ref 9, .long y3, .int (mi 19 (y6).toNatClampNeg)] (ab_G mi4 ml5) (some (.int r9)) (ab_G mi7 ml8) ∧ (((r9 = 0) → (ab_W call ro 0 0 (ab_lk2 pl_X11_casesLost) Q (6, [some (.ref 0), some (.long y1), none, some (.long y3), none, some (.int (y5 + 1)), some (.int (y6 + 1)), none], [], 0, 0, (ab_G mi7 ml8)))) ∧ (¬ (r9 = 0) → (ab_W call ro 0 0 (ab_lk2 pl_X11_casesLost) Q (6, [some (.ref 0), some (.long y1), none, some (.long y3), none, some (.int y5), some (.int (y6 + 1)), none], [], 0, 0, (ab_G mi7 ml8))))))))))))))) ∧ (¬ (y6 < (mi 18 2)) → (Q (some (.int y5)) (ab_G mi ml)))) :
    ab_W call ro 0 0 (ab_lk2 pl_X11_casesLost) Q (6, [some (.ref 0), some (.long y1), none, some (.long y3), none, some (.int y5), some (.int y6), none], [], 0, 0, ab_G mi ml) := by
  refine ab_wk 5 (f' := (if y6 < (mi 18 2) then 18 else 85, [some (.ref 0), some (.long y1), none, some (.long y3), none, some (.int y5), some (.int y6), none], [], 0, 0, (ab_G mi ml))) rfl ⟨trivial, trivial, trivial, trivial, trivial, trivial⟩ ?_
  refine ab_wi (fun c => ?_) (fun c => ?_)
  · have h := h.1 c
    obtain ⟨p0, p1, h⟩ := h
    obtain ⟨r3, mi1, ml2, hc, h⟩ := h
    refine ab_wc 14 (c := 13) (as := [.ref 1]) (pc := 47) (ll := [some (.ref 0), some (.long y1), none, some (.long y3), none, some (.int y5), some (.int y6), some (.int (mi 19 (y6).toNatClampNeg))]) (st := [.int (mi 20 (y6).toNatClampNeg)]) (c1 := 0) (s1 := 0) (g := (ab_G mi ml)) rfl ⟨trivial, trivial, trivial, trivial, p0, trivial, trivial, trivial, trivial, trivial, p1, trivial, trivial, trivial⟩ hc ?_
    refine ab_wk 1 (f' := (if r3 < (mi 20 (y6).toNatClampNeg) then 79 else 50, [some (.ref 0), some (.long y1), none, some (.long y3), none, some (.int y5), some (.int y6), some (.int (mi 19 (y6).toNatClampNeg))], [], 0, 0, (ab_G mi1 ml2))) rfl ⟨trivial, trivial⟩ ?_
    refine ab_wi (fun c => ?_) (fun c => ?_)
    · have h := h.1 c
      exact ab_wk 2 (f' := (6, [some (.ref 0), some (.long y1), none, some (.long y3), none, some (.int y5), some (.int (y6 + 1)), some (.int (mi 19 (y6).toNatClampNeg))], [], 0, 0, (ab_G mi1 ml2))) rfl ⟨trivial, trivial, trivial⟩ (ab_drop h (ab_lrc _ (ab_lrc _ (ab_lrc _ (ab_lrc _ (ab_lrc _ (ab_lrc _ (ab_lrc _ (ab_lrn _ ab_lr0)))))))))
    · have h := h.2 c
      obtain ⟨r6, mi4, ml5, hc, h⟩ := h
      refine ab_wc 5 (c := 52) (as := [.ref 9, .long y1, .int (mi 19 (y6).toNatClampNeg)]) (pc := 60) (ll := [some (.ref 0), some (.long y1), none, some (.long y3), none, some (.int y5), some (.int y6), some (.int (mi 19 (y6).toNatClampNeg))]) (st := []) (c1 := 0) (s1 := 0) (g := (ab_G mi1 ml2)) rfl ⟨trivial, trivial, trivial, trivial, trivial⟩ hc ?_
      refine ab_wk 1 (f' := (if r6 = 0 then 79 else 63, [some (.ref 0), some (.long y1), none, some (.long y3), none, some (.int y5), some (.int y6), some (.int (mi 19 (y6).toNatClampNeg))], [], 0, 0, (ab_G mi4 ml5))) rfl ⟨trivial, trivial⟩ ?_
      refine ab_wi (fun c => ?_) (fun c => ?_)
      · have h := h.1 c
        exact ab_wk 2 (f' := (6, [some (.ref 0), some (.long y1), none, some (.long y3), none, some (.int y5), some (.int (y6 + 1)), some (.int (mi 19 (y6).toNatClampNeg))], [], 0, 0, (ab_G mi4 ml5))) rfl ⟨trivial, trivial, trivial⟩ (ab_drop h (ab_lrc _ (ab_lrc _ (ab_lrc _ (ab_lrc _ (ab_lrc _ (ab_lrc _ (ab_lrc _ (ab_lrn _ ab_lr0)))))))))
      · have h := h.2 c
        obtain ⟨r9, mi7, ml8, hc, h⟩ := h
        refine ab_wc 5 (c := 52) (as := [.ref 9, .long y3, .int (mi 19 (y6).toNatClampNeg)]) (pc := 73) (ll := [some (.ref 0), some (.long y1), none, some (.long y3), none, some (.int y5), some (.int y6), some (.int (mi 19 (y6).toNatClampNeg))]) (st := []) (c1 := 0) (s1 := 0) (g := (ab_G mi4 ml5)) rfl ⟨trivial, trivial, trivial, trivial, trivial⟩ hc ?_
        refine ab_wk 1 (f' := (if r9 = 0 then 76 else 79, [some (.ref 0), some (.long y1), none, some (.long y3), none, some (.int y5), some (.int y6), some (.int (mi 19 (y6).toNatClampNeg))], [], 0, 0, (ab_G mi7 ml8))) rfl ⟨trivial, trivial⟩ ?_
        refine ab_wi (fun c => ?_) (fun c => ?_)
        · have h := h.1 c
          exact ab_wk 3 (f' := (6, [some (.ref 0), some (.long y1), none, some (.long y3), none, some (.int (y5 + 1)), some (.int (y6 + 1)), some (.int (mi 19 (y6).toNatClampNeg))], [], 0, 0, (ab_G mi7 ml8))) rfl ⟨trivial, trivial, trivial, trivial⟩ (ab_drop h (ab_lrc _ (ab_lrc _ (ab_lrc _ (ab_lrc _ (ab_lrc _ (ab_lrc _ (ab_lrc _ (ab_lrn _ ab_lr0)))))))))
        · have h := h.2 c
          exact ab_wk 2 (f' := (6, [some (.ref 0), some (.long y1), none, some (.long y3), none, some (.int y5), some (.int (y6 + 1)), some (.int (mi 19 (y6).toNatClampNeg))], [], 0, 0, (ab_G mi7 ml8))) rfl ⟨trivial, trivial, trivial⟩ (ab_drop h (ab_lrc _ (ab_lrc _ (ab_lrc _ (ab_lrc _ (ab_lrc _ (ab_lrc _ (ab_lrc _ (ab_lrn _ ab_lr0)))))))))
  · have h := h.2 c
    exact ab_wr 2 rfl ⟨trivial, trivial⟩ h
theorem vc_X11_isSo_0 {call : Nat → List Value → ab_S → Option Value → ab_S → Prop} {ro : ab_E} {Q : Option Value → ab_S → Prop} (x0 : Int64) (x2 : Int64) (x4 : Int32) (mi : Nat → Nat → Int32) (ml : Nat → Nat → Int64)
    (h : ((x4 < 64) → ((((lg_cmp ((x0 >>> (((x4 &&& 63)).toInt64 &&& 63)) &&& 1) 0) = 0) → (Q (some (.int 0)) (ab_G mi ml))) ∧ (¬ ((lg_cmp ((x0 >>> (((x4 &&& 63)).toInt64 &&& 63)) &&& 1) 0) = 0) → (Q (some (.int 1)) (ab_G mi ml))))) ∧ (¬ (x4 < 64) → ((((lg_cmp ((x2 >>> (((x4 &&& 63)).toInt64 &&& 63)) &&& 1) 0) = 0) → (Q (some (.int 0)) (ab_G mi ml))) ∧ (¬ ((lg_cmp ((x2 >>> (((x4 &&& 63)).toInt64 &&& 63)) &&& 1) 0) = 0) → (Q (some (.int 1)) (ab_G mi ml)))))) :
    ab_W call ro 0 0 (ab_lk2 pl_X11_isSo) Q (0, [some (.long x0), none, some (.long x2), none, some (.int x4), none, none], [], 0, 0, ab_G mi ml) := by
  refine ab_wk 3 (f' := (if x4 < 64 then 7 else 11, [some (.long x0), none, some (.long x2), none, some (.int x4), none, none], [], 0, 0, (ab_G mi ml))) rfl ⟨trivial, trivial, trivial, trivial⟩ ?_
  refine ab_wi (fun c => ?_) (fun c => ?_)
  · have h := h.1 c
    refine ab_wk 13 (f' := (if (lg_cmp ((x0 >>> (((x4 &&& 63)).toInt64 &&& 63)) &&& 1) 0) = 0 then 33 else 29, [some (.long x0), none, some (.long x2), none, some (.int x4), some (.long x0), none], [], 0, 0, (ab_G mi ml))) rfl ⟨trivial, trivial, trivial, trivial, trivial, trivial, trivial, trivial, trivial, trivial, trivial, trivial, trivial, trivial⟩ ?_
    refine ab_wi (fun c => ?_) (fun c => ?_)
    · have h := h.1 c
      exact ab_wr 2 rfl ⟨trivial, (Or.inl rfl)⟩ h
    · have h := h.2 c
      exact ab_wr 3 rfl ⟨trivial, trivial, (Or.inr rfl)⟩ h
  · have h := h.2 c
    refine ab_wk 12 (f' := (if (lg_cmp ((x2 >>> (((x4 &&& 63)).toInt64 &&& 63)) &&& 1) 0) = 0 then 33 else 29, [some (.long x0), none, some (.long x2), none, some (.int x4), some (.long x2), none], [], 0, 0, (ab_G mi ml))) rfl ⟨trivial, trivial, trivial, trivial, trivial, trivial, trivial, trivial, trivial, trivial, trivial, trivial, trivial⟩ ?_
    refine ab_wi (fun c => ?_) (fun c => ?_)
    · have h := h.1 c
      exact ab_wr 2 rfl ⟨trivial, (Or.inl rfl)⟩ h
    · have h := h.2 c
      exact ab_wr 3 rfl ⟨trivial, trivial, (Or.inr rfl)⟩ h
