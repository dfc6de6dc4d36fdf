theorem vc_X10_add_0 {call : Nat → List Value → ab_S → Option Value → ab_S → Prop} {ro : ab_E} {Q : Option Value → ab_S → Prop} (x1 : Int32) (x2 : Int32) (x3 : Int32) (x4 : Int32) (mi : Nat → Nat → Int32) (ml : Nat → Nat → Int64)
    (h : (((mi 12 5) < 30) → (vp_in (mi 12 5) 30 ∧ (vp_in (mi 12 5) 30 ∧ (vp_in (mi 12 5) 30 ∧ (vp_in (mi 12 5) 30 ∧ (vp_in (mi 12 5) 30 ∧ (Q none (ab_G (ab_ui (ab_ui (ab_ui (ab_ui (ab_ui (ab_ui mi 13 ((mi 12 5)).toNatClampNeg x1) 14 ((mi 12 5)).toNatClampNeg x2) 15 ((mi 12 5)).toNatClampNeg x3) 16 ((mi 12 5)).toNatClampNeg x4) 17 ((mi 12 5)).toNatClampNeg (-1)) 12 5 ((mi 12 5) + 1)) ml)))))))) ∧ (¬ ((mi 12 5) < 30) → (Q none (ab_G mi ml)))) :
    ab_W call ro 0 0 (ab_lk2 pl_X10_add) Q (0, [some (.ref 12), some (.int x1), some (.int x2), some (.int x3), some (.int x4)], [], 0, 0, ab_G mi ml) := by
  refine ab_wk 4 (f' := (if (mi 12 5) < 30 then 10 else 9, [some (.ref 12), some (.int x1), some (.int x2), some (.int x3), some (.int x4)], [], 0, 0, (ab_G mi ml))) rfl ⟨trivial, trivial, trivial, trivial, trivial⟩ ?_
  refine ab_wi (fun c => ?_) (fun c => ?_)
  · have h := h.1 c
    obtain ⟨p0, p1, p2, p3, p4, h⟩ := h
    exact ab_wr 37 rfl ⟨trivial, trivial, trivial, trivial, trivial, p0, trivial, trivial, trivial, trivial, trivial, p1, trivial, trivial, trivial, trivial, trivial, p2, trivial, trivial, trivial, trivial, trivial, p3, trivial, trivial, trivial, trivial, trivial, p4, trivial, trivial, trivial, trivial, trivial, trivial, trivial⟩ h
  · have h := h.2 c
    exact ab_wr 1 rfl trivial h
theorem vc_X10_isSeen_0 {call : Nat → List Value → ab_S → Option Value → ab_S → Prop} {ro : ab_E} {Q : Option Value → ab_S → Prop} (x1 : Int32) (x2 : Int32) (mi : Nat → Nat → Int32) (ml : Nat → Nat → Int64)
    (h : vp_in x1 30 ∧ (((x2 < (mi 16 (x1).toNatClampNeg)) → (Q (some (.int 0)) (ab_G mi ml))) ∧ (¬ (x2 < (mi 16 (x1).toNatClampNeg)) → (vp_in x1 30 ∧ ((((mi 17 (x1).toNatClampNeg) = (-1)) → (Q (some (.int 1)) (ab_G mi ml))) ∧ (¬ ((mi 17 (x1).toNatClampNeg) = (-1)) → (vp_in x1 30 ∧ (((x2 < (mi 17 (x1).toNatClampNeg)) → (Q (some (.int 1)) (ab_G mi ml))) ∧ (¬ (x2 < (mi 17 (x1).toNatClampNeg)) → (Q (some (.int 0)) (ab_G mi ml))))))))))) :
    ab_W call ro 0 0 (ab_lk2 pl_X10_isSeen) Q (0, [some (.ref 12), some (.int x1), some (.int x2)], [], 0, 0, ab_G mi ml) := by
  obtain ⟨p0, h⟩ := h
  refine ab_wk 6 (f' := (if x2 < (mi 16 (x1).toNatClampNeg) then 34 else 10, [some (.ref 12), some (.int x1), some (.int x2)], [], 0, 0, (ab_G mi ml))) rfl ⟨trivial, trivial, trivial, p0, trivial, trivial, trivial⟩ ?_
  refine ab_wi (fun c => ?_) (fun c => ?_)
  · have h := h.1 c
    exact ab_wr 2 rfl ⟨trivial, (Or.inl rfl)⟩ h
  · have h := h.2 c
    obtain ⟨p0, h⟩ := h
    refine ab_wk 6 (f' := (if (mi 17 (x1).toNatClampNeg) = (-1) then 30 else 20, [some (.ref 12), some (.int x1), some (.int x2)], [], 0, 0, (ab_G mi ml))) rfl ⟨trivial, trivial, trivial, p0, trivial, trivial, trivial⟩ ?_
    refine ab_wi (fun c => ?_) (fun c => ?_)
    · have h := h.1 c
      exact ab_wr 3 rfl ⟨trivial, trivial, (Or.inr rfl)⟩ h
    · have h := h.2 c
      obtain ⟨p0, h⟩ := h
      refine ab_wk 6 (f' := (if x2 < (mi 17 (x1).toNatClampNeg) then 30 else 34, [some (.ref 12), some (.int x1), some (.int x2)], [], 0, 0, (ab_G mi ml))) rfl ⟨trivial, trivial, trivial, p0, trivial, trivial, trivial⟩ ?_
      refine ab_wi (fun c => ?_) (fun c => ?_)
      · have h := h.1 c
        exact ab_wr 3 rfl ⟨trivial, trivial, (Or.inr rfl)⟩ h
      · have h := h.2 c
        exact ab_wr 2 rfl ⟨trivial, (Or.inl rfl)⟩ h
theorem vc_X10_seenOn_0 {call : Nat → List Value → ab_S → Option Value → ab_S → Prop} {ro : ab_E} {Q : Option Value → ab_S → Prop} (x1 : Int32) (mi : Nat → Nat → Int32) (ml : Nat → Nat → Int64)
    (h : ab_W call ro 0 0 (ab_lk2 pl_X10_seenOn) Q (4, [some (.ref 12), some (.int x1), some (.int 0), some (.int 0)], [], 0, 0, (ab_G mi ml))) :
    ab_W call ro 0 0 (ab_lk2 pl_X10_seenOn) Q (0, [some (.ref 12), some (.int x1), none, none], [], 0, 0, ab_G mi ml) := by
  exact ab_wk 4 (f' := (4, [some (.ref 12), some (.int x1), some (.int 0), some (.int 0)], [], 0, 0, (ab_G mi ml))) rfl ⟨trivial, trivial, trivial, trivial, trivial⟩ h
theorem vc_X10_seenOn_4 {call : Nat → List Value → ab_S → Option Value → ab_S → Prop} {ro : ab_E} {Q : Option Value → ab_S → Prop} (y1 : Int32) (y2 : Int32) (y3 : Int32) (mi : Nat → Nat → Int32) (ml : Nat → Nat → Int64)
    (h : ((y3 < (mi 12 5)) → (∃ (r3 : Int32) (mi1 : Nat → Nat → Int32) (ml2 : Nat → Nat → Int64), call 97 [.ref 12, .int y3, .int y1] (ab_G mi ml) (some (.int r3)) (ab_G mi1 ml2) ∧ (((r3 = 0) → (ab_W call ro 0 0 (ab_lk2 pl_X10_seenOn) Q (4, [some (.ref 12), some (.int y1), some (.int y2), some (.int (y3 + 1))], [], 0, 0, (ab_G mi1 ml2)))) ∧ (¬ (r3 = 0) → (ab_W call ro 0 0 (ab_lk2 pl_X10_seenOn) Q (4, [some (.ref 12), some (.int y1), some (.int (y2 + 1)), some (.int (y3 + 1))], [], 0, 0, (ab_G mi1 ml2))))))) ∧ (¬ (y3 < (mi 12 5)) → (Q (some (.int y2)) (ab_G mi ml)))) :
    ab_W call ro 0 0 (ab_lk2 pl_X10_seenOn) Q (4, [some (.ref 12), some (.int y1), some (.int y2), some (.int y3)], [], 0, 0, ab_G mi ml) := by
  refine ab_wk 4 (f' := (if y3 < (mi 12 5) then 12 else 30, [some (.ref 12), some (.int y1), some (.int y2), some (.int y3)], [], 0, 0, (ab_G mi ml))) rfl ⟨trivial, trivial, trivial, trivial, trivial⟩ ?_
  refine ab_wi (fun c => ?_) (fun c => ?_)
  · have h := h.1 c
    obtain ⟨r3, mi1, ml2, hc, h⟩ := h
    refine ab_wc 4 (c := 97) (as := [.ref 12, .int y3, .int y1]) (pc := 18) (ll := [some (.ref 12), some (.int y1), some (.int y2), some (.int y3)]) (st := []) (c1 := 0) (s1 := 0) (g := (ab_G mi ml)) rfl ⟨trivial, trivial, trivial, trivial⟩ hc ?_
    refine ab_wk 1 (f' := (if r3 = 0 then 24 else 21, [some (.ref 12), some (.int y1), some (.int y2), some (.int y3)], [], 0, 0, (ab_G mi1 ml2))) rfl ⟨trivial, trivial⟩ ?_
    refine ab_wi (fun c => ?_) (fun c => ?_)
    · have h := h.1 c
      exact ab_wk 2 (f' := (4, [some (.ref 12), some (.int y1), some (.int y2), some (.int (y3 + 1))], [], 0, 0, (ab_G mi1 ml2))) rfl ⟨trivial, trivial, trivial⟩ h
    · have h := h.2 c
      exact ab_wk 3 (f' := (4, [some (.ref 12), some (.int y1), some (.int (y2 + 1)), some (.int (y3 + 1))], [], 0, 0, (ab_G mi1 ml2))) rfl ⟨trivial, trivial, trivial, trivial⟩ h
  · have h := h.2 c
    exact ab_wr 2 rfl ⟨trivial, trivial⟩ h
theorem vc_X10_withdrawn_0 {call : Nat → List Value → ab_S → Option Value → ab_S → Prop} {ro : ab_E} {Q : Option Value → ab_S → Prop}  (mi : Nat → Nat → Int32) (ml : Nat → Nat → Int64)
    (h : ab_W call ro 0 0 (ab_lk2 pl_X10_withdrawn) Q (4, [some (.ref 12), some (.int 0), some (.int 0)], [], 0, 0, (ab_G mi ml))) :
    ab_W call ro 0 0 (ab_lk2 pl_X10_withdrawn) Q (0, [some (.ref 12), none, none], [], 0, 0, ab_G mi ml) := by
  exact ab_wk 4 (f' := (4, [some (.ref 12), some (.int 0), some (.int 0)], [], 0, 0, (ab_G mi ml))) rfl ⟨trivial, trivial, trivial, trivial, trivial⟩ h
theorem vc_X10_withdrawn_4 {call : Nat → List Value → ab_S → Option Value → ab_S → Prop} {ro : ab_E} {Q : Option Value → ab_S → Prop} (y1 : Int32) (y2 : Int32) (mi : Nat → Nat → Int32) (ml : Nat → Nat → Int64)
    (h : ((y2 < (mi 12 5)) → (vp_in y2 30 ∧ ((((mi 17 (y2).toNatClampNeg) = (-1)) → (ab_W call ro 0 0 (ab_lk2 pl_X10_withdrawn) Q (4, [some (.ref 12), some (.int y1), some (.int (y2 + 1))], [], 0, 0, (ab_G mi ml)))) ∧ (¬ ((mi 17 (y2).toNatClampNeg) = (-1)) → (ab_W call ro 0 0 (ab_lk2 pl_X10_withdrawn) Q (4, [some (.ref 12), some (.int (y1 + 1)), some (.int (y2 + 1))], [], 0, 0, (ab_G mi ml))))))) ∧ (¬ (y2 < (mi 12 5)) → (Q (some (.int y1)) (ab_G mi ml)))) :
    ab_W call ro 0 0 (ab_lk2 pl_X10_withdrawn) Q (4, [some (.ref 12), some (.int y1), some (.int y2)], [], 0, 0, ab_G mi ml) := by
  refine ab_wk 4 (f' := (if y2 < (mi 12 5) then 12 else 31, [some (.ref 12), some (.int y1), some (.int y2)], [], 0, 0, (ab_G mi ml))) rfl ⟨trivial, trivial, trivial, trivial, trivial⟩ ?_
  refine ab_wi (fun c => ?_) (fun c => ?_)
  · have h := h.1 c
    obtain ⟨p0, h⟩ := h
    refine ab_wk 6 (f' := (if (mi 17 (y2).toNatClampNeg) = (-1) then 25 else 22, [some (.ref 12), some (.int y1), some (.int y2)], [], 0, 0, (ab_G mi ml))) rfl ⟨trivial, trivial, trivial, p0, trivial, trivial, trivial⟩ ?_
    refine ab_wi (fun c => ?_) (fun c => ?_)
    · have h := h.1 c
      exact ab_wk 2 (f' := (4, [some (.ref 12), some (.int y1), some (.int (y2 + 1))], [], 0, 0, (ab_G mi ml))) rfl ⟨trivial, trivial, trivial⟩ h
    · have h := h.2 c
      exact ab_wk 3 (f' := (4, [some (.ref 12), some (.int (y1 + 1)), some (.int (y2 + 1))], [], 0, 0, (ab_G mi ml))) rfl ⟨trivial, trivial, trivial, trivial⟩ h
  · have h := h.2 c
    exact ab_wr 2 rfl ⟨trivial, trivial⟩ h
theorem vc_X10_cut_0 {call : Nat → List Value → ab_S → Option Value → ab_S → Prop} {ro : ab_E} {Q : Option Value → ab_S → Prop} (x1 : Int32) (mi : Nat → Nat → Int32) (ml : Nat → Nat → Int64)
    (h : vp_in x1 30 ∧ ((((mi 13 (x1).toNatClampNeg) = 0) → (vp_in x1 30 ∧ (Q (some (.long ((1 : Int64) <<< (((mi 14 (x1).toNatClampNeg)).toInt64 &&& 63)))) (ab_G mi ml)))) ∧ (¬ ((mi 13 (x1).toNatClampNeg) = 0) → (vp_in x1 30 ∧ ((((mi 13 (x1).toNatClampNeg) = 2) → (vp_in x1 30 ∧ (Q (some (.long ((1 : Int64) <<< (((mi 14 (x1).toNatClampNeg)).toInt64 &&& 63)))) (ab_G mi ml)))) ∧ (¬ ((mi 13 (x1).toNatClampNeg) = 2) → (Q (some (.long 0)) (ab_G mi ml)))))))) :
    ab_W call ro 0 0 (ab_lk2 pl_X10_cut) Q (0, [some (.ref 12), some (.int x1), none], [], 0, 0, ab_G mi ml) := by
  obtain ⟨p0, h⟩ := h
  refine ab_wk 5 (f' := (if (mi 13 (x1).toNatClampNeg) = 0 then 19 else 9, [some (.ref 12), some (.int x1), none], [], 0, 0, (ab_G mi ml))) rfl ⟨trivial, trivial, trivial, p0, trivial, trivial⟩ ?_
  refine ab_wi (fun c => ?_) (fun c => ?_)
  · have h := h.1 c
    refine ab_wk 5 (f' := (if (1 : Int32) = 0 then 40 else 29, [some (.ref 12), some (.int x1), some (.int 1)], [], 0, 0, (ab_G mi ml))) rfl ⟨trivial, trivial, trivial, trivial, trivial, trivial⟩ ?_
    refine ab_wif (c := ((1 : Int32) = 0)) (by decide) ?_
    obtain ⟨p0, h⟩ := h
    exact ab_wr 8 rfl ⟨trivial, trivial, trivial, trivial, p0, trivial, trivial, trivial⟩ h
  · have h := h.2 c
    obtain ⟨p0, h⟩ := h
    refine ab_wk 6 (f' := (if (mi 13 (x1).toNatClampNeg) = 2 then 19 else 23, [some (.ref 12), some (.int x1), none], [], 0, 0, (ab_G mi ml))) rfl ⟨trivial, trivial, trivial, p0, trivial, trivial, trivial⟩ ?_
    refine ab_wi (fun c => ?_) (fun c => ?_)
    · have h := h.1 c
      refine ab_wk 5 (f' := (if (1 : Int32) = 0 then 40 else 29, [some (.ref 12), some (.int x1), some (.int 1)], [], 0, 0, (ab_G mi ml))) rfl ⟨trivial, trivial, trivial, trivial, trivial, trivial⟩ ?_
      refine ab_wif (c := ((1 : Int32) = 0)) (by decide) ?_
      obtain ⟨p0, h⟩ := h
      exact ab_wr 8 rfl ⟨trivial, trivial, trivial, trivial, p0, trivial, trivial, trivial⟩ h
    · have h := h.2 c
      refine ab_wk 4 (f' := (if (0 : Int32) = 0 then 40 else 29, [some (.ref 12), some (.int x1), some (.int 0)], [], 0, 0, (ab_G mi ml))) rfl ⟨trivial, trivial, trivial, trivial, trivial⟩ ?_
      refine ab_wit (c := ((0 : Int32) = 0)) (by decide) ?_
      exact ab_wr 2 rfl ⟨trivial, trivial⟩ h
theorem vc_X10_fill_0 {call : Nat → List Value → ab_S → Option Value → ab_S → Prop} {ro : ab_E} {Q : Option Value → ab_S → Prop} (x1 : Int32) (mi : Nat → Nat → Int32) (ml : Nat → Nat → Int64)
    (h : vp_in x1 30 ∧ ((((mi 13 (x1).toNatClampNeg) = 2) → (Q (some (.long ((1 : Int64) <<< ((((12 : Int32) + x1)).toInt64 &&& 63)))) (ab_G mi ml))) ∧ (¬ ((mi 13 (x1).toNatClampNeg) = 2) → (vp_in x1 30 ∧ ((((mi 13 (x1).toNatClampNeg) = 3) → (Q (some (.long ((1 : Int64) <<< ((((12 : Int32) + x1)).toInt64 &&& 63)))) (ab_G mi ml))) ∧ (¬ ((mi 13 (x1).toNatClampNeg) = 3) → (Q (some (.long 0)) (ab_G mi ml)))))))) :
    ab_W call ro 0 0 (ab_lk2 pl_X10_fill) Q (0, [some (.ref 12), some (.int x1), none], [], 0, 0, ab_G mi ml) := by
  obtain ⟨p0, h⟩ := h
  refine ab_wk 6 (f' := (if (mi 13 (x1).toNatClampNeg) = 2 then 20 else 10, [some (.ref 12), some (.int x1), none], [], 0, 0, (ab_G mi ml))) rfl ⟨trivial, trivial, trivial, p0, trivial, trivial, trivial⟩ ?_
  refine ab_wi (fun c => ?_) (fun c => ?_)
  · have h := h.1 c
    refine ab_wk 5 (f' := (if (1 : Int32) = 0 then 39 else 30, [some (.ref 12), some (.int x1), some (.int 1)], [], 0, 0, (ab_G mi ml))) rfl ⟨trivial, trivial, trivial, trivial, trivial, trivial⟩ ?_
    refine ab_wif (c := ((1 : Int32) = 0)) (by decide) ?_
    exact ab_wr 7 rfl ⟨trivial, trivial, trivial, trivial, trivial, trivial, trivial⟩ h
  · have h := h.2 c
    obtain ⟨p0, h⟩ := h
    refine ab_wk 6 (f' := (if (mi 13 (x1).toNatClampNeg) = 3 then 20 else 24, [some (.ref 12), some (.int x1), none], [], 0, 0, (ab_G mi ml))) rfl ⟨trivial, trivial, trivial, p0, trivial, trivial, trivial⟩ ?_
    refine ab_wi (fun c => ?_) (fun c => ?_)
    · have h := h.1 c
      refine ab_wk 5 (f' := (if (1 : Int32) = 0 then 39 else 30, [some (.ref 12), some (.int x1), some (.int 1)], [], 0, 0, (ab_G mi ml))) rfl ⟨trivial, trivial, trivial, trivial, trivial, trivial⟩ ?_
      refine ab_wif (c := ((1 : Int32) = 0)) (by decide) ?_
      exact ab_wr 7 rfl ⟨trivial, trivial, trivial, trivial, trivial, trivial, trivial⟩ h
    · have h := h.2 c
      refine ab_wk 4 (f' := (if (0 : Int32) = 0 then 39 else 30, [some (.ref 12), some (.int x1), some (.int 0)], [], 0, 0, (ab_G mi ml))) rfl ⟨trivial, trivial, trivial, trivial, trivial⟩ ?_
      refine ab_wit (c := ((0 : Int32) = 0)) (by decide) ?_
      exact ab_wr 2 rfl ⟨trivial, trivial⟩ h
