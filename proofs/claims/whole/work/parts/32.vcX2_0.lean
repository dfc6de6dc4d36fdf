theorem vc_X2_addCase_0 {call : Nat → List Value → ab_S → Option Value → ab_S → Prop} {ro : ab_E} {Q : Option Value → ab_S → Prop} (x1 : Int32) (x2 : Int32) (mi : Nat → Nat → Int32) (ml : Nat → Nat → Int64)
    (h : (((mi 18 2) < 40) → (vp_in (mi 18 2) 40 ∧ (vp_in (mi 18 2) 40 ∧ (Q (some (.int (((mi 18 2) + 1) - 1))) (ab_G (ab_ui (ab_ui (ab_ui mi 19 ((mi 18 2)).toNatClampNeg x1) 20 ((mi 18 2)).toNatClampNeg x2) 18 2 ((mi 18 2) + 1)) ml))))) ∧ (¬ ((mi 18 2) < 40) → (Q (some (.int (-1))) (ab_G mi ml)))) :
    ab_W call ro 0 0 (ab_lk2 pl_X2_addCase) Q (0, [some (.ref 18), some (.int x1), some (.int x2)], [], 0, 0, ab_G mi ml) := by
  refine ab_wk 4 (f' := (if (mi 18 2) < 40 then 11 else 9, [some (.ref 18), some (.int x1), some (.int x2)], [], 0, 0, (ab_G mi ml))) rfl ⟨trivial, trivial, trivial, trivial, trivial⟩ ?_
  refine ab_wi (fun c => ?_) (fun c => ?_)
  · have h := h.1 c
    obtain ⟨p0, p1, h⟩ := h
    exact ab_wr 23 rfl ⟨trivial, trivial, trivial, trivial, trivial, p0, trivial, trivial, trivial, trivial, trivial, p1, trivial, trivial, trivial, trivial, trivial, trivial, trivial, trivial, trivial, trivial, trivial⟩ h
  · have h := h.2 c
    exact ab_wr 2 rfl ⟨trivial, trivial⟩ h
theorem vc_X2_addGround_0 {call : Nat → List Value → ab_S → Option Value → ab_S → Prop} {ro : ab_E} {Q : Option Value → ab_S → Prop} (x1 : Int32) (x2 : Int64) (x4 : Int64) (mi : Nat → Nat → Int32) (ml : Nat → Nat → Int64)
    (h : (((mi 18 6) < 20) → (vp_in (mi 18 6) 20 ∧ (vp_in (mi 18 6) 20 ∧ (vp_in (mi 18 6) 20 ∧ (Q none (ab_G (ab_ui (ab_ui mi 21 ((mi 18 6)).toNatClampNeg x1) 18 6 ((mi 18 6) + 1)) (ab_ul (ab_ul ml 22 ((mi 18 6)).toNatClampNeg x2) 23 ((mi 18 6)).toNatClampNeg x4))))))) ∧ (¬ ((mi 18 6) < 20) → (Q none (ab_G mi ml)))) :
    ab_W call ro 0 0 (ab_lk2 pl_X2_addGround) Q (0, [some (.ref 18), some (.int x1), some (.long x2), none, some (.long x4), none], [], 0, 0, ab_G mi ml) := by
  refine ab_wk 4 (f' := (if (mi 18 6) < 20 then 10 else 9, [some (.ref 18), some (.int x1), some (.long x2), none, some (.long x4), none], [], 0, 0, (ab_G mi ml))) rfl ⟨trivial, trivial, trivial, trivial, trivial⟩ ?_
  refine ab_wi (fun c => ?_) (fun c => ?_)
  · have h := h.1 c
    obtain ⟨p0, p1, p2, h⟩ := h
    exact ab_wr 25 rfl ⟨trivial, trivial, trivial, trivial, trivial, p0, trivial, trivial, trivial, trivial, trivial, p1, trivial, trivial, trivial, trivial, trivial, p2, trivial, trivial, trivial, trivial, trivial, trivial, trivial⟩ h
  · have h := h.2 c
    exact ab_wr 1 rfl trivial h
theorem vc_X2_seenOn_0 {call : Nat → List Value → ab_S → Option Value → ab_S → Prop} {ro : ab_E} {Q : Option Value → ab_S → Prop} (x1 : Int32) (mi : Nat → Nat → Int32) (ml : Nat → Nat → Int64)
    (h : ab_W call ro 0 0 (ab_lk2 pl_X2_seenOn) Q (4, [some (.ref 18), some (.int x1), some (.int 0), some (.int 0)], [], 0, 0, (ab_G mi ml))) :
    ab_W call ro 0 0 (ab_lk2 pl_X2_seenOn) Q (0, [some (.ref 18), some (.int x1), none, none], [], 0, 0, ab_G mi ml) := by
  exact ab_wk 4 (f' := (4, [some (.ref 18), some (.int x1), some (.int 0), some (.int 0)], [], 0, 0, (ab_G mi ml))) rfl ⟨trivial, trivial, trivial, trivial, trivial⟩ h
theorem vc_X2_seenOn_4 {call : Nat → List Value → ab_S → Option Value → ab_S → Prop} {ro : ab_E} {Q : Option Value → ab_S → Prop} (y1 : Int32) (y2 : Int32) (y3 : Int32) (mi : Nat → Nat → Int32) (ml : Nat → Nat → Int64)
    (h : ((y3 < (mi 18 2)) → (vp_in y3 40 ∧ (((y1 < (mi 20 (y3).toNatClampNeg)) → (ab_W call ro 0 0 (ab_lk2 pl_X2_seenOn) Q (4, [some (.ref 18), some (.int y1), some (.int y2), some (.int (y3 + 1))], [], 0, 0, (ab_G mi ml)))) ∧ (¬ (y1 < (mi 20 (y3).toNatClampNeg)) → (ab_W call ro 0 0 (ab_lk2 pl_X2_seenOn) Q (4, [some (.ref 18), some (.int y1), some (.int (y2 + 1)), some (.int (y3 + 1))], [], 0, 0, (ab_G mi ml))))))) ∧ (¬ (y3 < (mi 18 2)) → (Q (some (.int y2)) (ab_G mi ml)))) :
    ab_W call ro 0 0 (ab_lk2 pl_X2_seenOn) Q (4, [some (.ref 18), some (.int y1), some (.int y2), some (.int y3)], [], 0, 0, ab_G mi ml) := by
  refine ab_wk 4 (f' := (if y3 < (mi 18 2) then 12 else 31, [some (.ref 18), some (.int y1), some (.int y2), some (.int y3)], [], 0, 0, (ab_G mi ml))) rfl ⟨trivial, trivial, trivial, trivial, trivial⟩ ?_
  refine ab_wi (fun c => ?_) (fun c => ?_)
  · have h := h.1 c
    obtain ⟨p0, h⟩ := h
    refine ab_wk 6 (f' := (if y1 < (mi 20 (y3).toNatClampNeg) then 25 else 22, [some (.ref 18), some (.int y1), some (.int y2), some (.int y3)], [], 0, 0, (ab_G mi ml))) rfl ⟨trivial, trivial, trivial, p0, trivial, trivial, trivial⟩ ?_
    refine ab_wi (fun c => ?_) (fun c => ?_)
    · have h := h.1 c
      exact ab_wk 2 (f' := (4, [some (.ref 18), some (.int y1), some (.int y2), some (.int (y3 + 1))], [], 0, 0, (ab_G mi ml))) rfl ⟨trivial, trivial, trivial⟩ h
    · have h := h.2 c
      exact ab_wk 3 (f' := (4, [some (.ref 18), some (.int y1), some (.int (y2 + 1)), some (.int (y3 + 1))], [], 0, 0, (ab_G mi ml))) rfl ⟨trivial, trivial, trivial, trivial⟩ h
  · have h := h.2 c
    exact ab_wr 2 rfl ⟨trivial, trivial⟩ h
theorem vc_X2_firstAgainst_0 {call : Nat → List Value → ab_S → Option Value → ab_S → Prop} {ro : ab_E} {Q : Option Value → ab_S → Prop} (x1 : Int32) (x2 : Int32) (mi : Nat → Nat → Int32) (ml : Nat → Nat → Int64)
    (h : ab_W call ro 0 0 (ab_lk2 pl_X2_firstAgainst) Q (2, [some (.ref 18), some (.int x1), some (.int x2), some (.int 0)], [], 0, 0, (ab_G mi ml))) :
    ab_W call ro 0 0 (ab_lk2 pl_X2_firstAgainst) Q (0, [some (.ref 18), some (.int x1), some (.int x2), none], [], 0, 0, ab_G mi ml) := by
  exact ab_wk 2 (f' := (2, [some (.ref 18), some (.int x1), some (.int x2), some (.int 0)], [], 0, 0, (ab_G mi ml))) rfl ⟨trivial, trivial, trivial⟩ h
theorem vc_X2_firstAgainst_2 {call : Nat → List Value → ab_S → Option Value → ab_S → Prop} {ro : ab_E} {Q : Option Value → ab_S → Prop} (y1 : Int32) (y2 : Int32) (y3 : Int32) (mi : Nat → Nat → Int32) (ml : Nat → Nat → Int64)
    (h : ((y3 < (mi 18 2)) → (vp_in y3 40 ∧ (((y2 < (mi 20 (y3).toNatClampNeg)) → (ab_W call ro 0 0 (ab_lk2 pl_X2_firstAgainst) Q (2, [some (.ref 18), some (.int y1), some (.int y2), some (.int (y3 + 1))], [], 0, 0, (ab_G mi ml)))) ∧ (¬ (y2 < (mi 20 (y3).toNatClampNeg)) → (vp_in y1 20 ∧ (vp_in y1 20 ∧ (vp_in y3 40 ∧ (∃ (r3 : Int32) (mi1 : Nat → Nat → Int32) (ml2 : Nat → Nat → Int64), call 143 [.long (ml 22 (y1).toNatClampNeg), .long (ml 23 (y1).toNatClampNeg), .int (mi 19 (y3).toNatClampNeg)] (ab_G mi ml) (some (.int r3)) (ab_G mi1 ml2) ∧ (((r3 = 0) → (Q (some (.int y3)) (ab_G mi1 ml2))) ∧ (¬ (r3 = 0) → (ab_W call ro 0 0 (ab_lk2 pl_X2_firstAgainst) Q (2, [some (.ref 18), some (.int y1), some (.int y2), some (.int (y3 + 1))], [], 0, 0, (ab_G mi1 ml2))))))))))))) ∧ (¬ (y3 < (mi 18 2)) → (Q (some (.int (-1))) (ab_G mi ml)))) :
    ab_W call ro 0 0 (ab_lk2 pl_X2_firstAgainst) Q (2, [some (.ref 18), some (.int y1), some (.int y2), some (.int y3)], [], 0, 0, ab_G mi ml) := by
  refine ab_wk 4 (f' := (if y3 < (mi 18 2) then 10 else 52, [some (.ref 18), some (.int y1), some (.int y2), some (.int y3)], [], 0, 0, (ab_G mi ml))) rfl ⟨trivial, trivial, trivial, trivial, trivial⟩ ?_
  refine ab_wi (fun c => ?_) (fun c => ?_)
  · have h := h.1 c
    obtain ⟨p0, h⟩ := h
    refine ab_wk 6 (f' := (if y2 < (mi 20 (y3).toNatClampNeg) then 46 else 20, [some (.ref 18), some (.int y1), some (.int y2), some (.int y3)], [], 0, 0, (ab_G mi ml))) rfl ⟨trivial, trivial, trivial, p0, trivial, trivial, trivial⟩ ?_
    refine ab_wi (fun c => ?_) (fun c => ?_)
    · have h := h.1 c
      exact ab_wk 2 (f' := (2, [some (.ref 18), some (.int y1), some (.int y2), some (.int (y3 + 1))], [], 0, 0, (ab_G mi ml))) rfl ⟨trivial, trivial, trivial⟩ h
    · have h := h.2 c
      obtain ⟨p0, p1, p2, h⟩ := h
      obtain ⟨r3, mi1, ml2, hc, h⟩ := h
      refine ab_wc 13 (c := 143) (as := [.long (ml 22 (y1).toNatClampNeg), .long (ml 23 (y1).toNatClampNeg), .int (mi 19 (y3).toNatClampNeg)]) (pc := 41) (ll := [some (.ref 18), some (.int y1), some (.int y2), some (.int y3)]) (st := []) (c1 := 0) (s1 := 0) (g := (ab_G mi ml)) rfl ⟨trivial, trivial, trivial, p0, trivial, trivial, trivial, p1, trivial, trivial, trivial, p2, trivial⟩ hc ?_
      refine ab_wk 1 (f' := (if r3 = 0 then 44 else 46, [some (.ref 18), some (.int y1), some (.int y2), some (.int y3)], [], 0, 0, (ab_G mi1 ml2))) rfl ⟨trivial, trivial⟩ ?_
      refine ab_wi (fun c => ?_) (fun c => ?_)
      · have h := h.1 c
        exact ab_wr 2 rfl ⟨trivial, trivial⟩ h
      · have h := h.2 c
        exact ab_wk 2 (f' := (2, [some (.ref 18), some (.int y1), some (.int y2), some (.int (y3 + 1))], [], 0, 0, (ab_G mi1 ml2))) rfl ⟨trivial, trivial, trivial⟩ h
  · have h := h.2 c
    exact ab_wr 2 rfl ⟨trivial, trivial⟩ h
theorem vc_X2_holds_0 {call : Nat → List Value → ab_S → Option Value → ab_S → Prop} {ro : ab_E} {Q : Option Value → ab_S → Prop} (x1 : Int32) (x2 : Int32) (mi : Nat → Nat → Int32) (ml : Nat → Nat → Int64)
    (h : ∃ (r3 : Int32) (mi1 : Nat → Nat → Int32) (ml2 : Nat → Nat → Int64), call 17 [.ref 18, .int x2] (ab_G mi ml) (some (.int r3)) (ab_G mi1 ml2) ∧ (((0 < r3) → (∃ (r6 : Int32) (mi4 : Nat → Nat → Int32) (ml5 : Nat → Nat → Int64), call 18 [.ref 18, .int x1, .int x2] (ab_G mi1 ml2) (some (.int r6)) (ab_G mi4 ml5) ∧ (((r6 = (-1)) → (Q (some (.int 1)) (ab_G mi4 ml5))) ∧ (¬ (r6 = (-1)) → (Q (some (.int 0)) (ab_G mi4 ml5)))))) ∧ (¬ (0 < r3) → (Q (some (.int 0)) (ab_G mi1 ml2))))) :
    ab_W call ro 0 0 (ab_lk2 pl_X2_holds) Q (0, [some (.ref 18), some (.int x1), some (.int x2)], [], 0, 0, ab_G mi ml) := by
  obtain ⟨r3, mi1, ml2, hc, h⟩ := h
  refine ab_wc 3 (c := 17) (as := [.ref 18, .int x2]) (pc := 5) (ll := [some (.ref 18), some (.int x1), some (.int x2)]) (st := []) (c1 := 0) (s1 := 0) (g := (ab_G mi ml)) rfl ⟨trivial, trivial, trivial⟩ hc ?_
  refine ab_wk 1 (f' := (if 0 < r3 then 8 else 22, [some (.ref 18), some (.int x1), some (.int x2)], [], 0, 0, (ab_G mi1 ml2))) rfl ⟨trivial, trivial⟩ ?_
  refine ab_wi (fun c => ?_) (fun c => ?_)
  · have h := h.1 c
    obtain ⟨r6, mi4, ml5, hc, h⟩ := h
    refine ab_wc 4 (c := 18) (as := [.ref 18, .int x1, .int x2]) (pc := 14) (ll := [some (.ref 18), some (.int x1), some (.int x2)]) (st := []) (c1 := 0) (s1 := 0) (g := (ab_G mi1 ml2)) rfl ⟨trivial, trivial, trivial, trivial⟩ hc ?_
    refine ab_wk 2 (f' := (if r6 = (-1) then 18 else 22, [some (.ref 18), some (.int x1), some (.int x2)], [], 0, 0, (ab_G mi4 ml5))) rfl ⟨trivial, trivial, trivial⟩ ?_
    refine ab_wi (fun c => ?_) (fun c => ?_)
    · have h := h.1 c
      exact ab_wr 3 rfl ⟨trivial, trivial, (Or.inr rfl)⟩ h
    · have h := h.2 c
      exact ab_wr 2 rfl ⟨trivial, (Or.inl rfl)⟩ h
  · have h := h.2 c
    exact ab_wr 2 rfl ⟨trivial, (Or.inl rfl)⟩ h
