theorem vc_X5_seek_0 {call : Nat → List Value → ab_S → Option Value → ab_S → Prop} {ro : ab_E} {Q : Option Value → ab_S → Prop} (x1 : Int32) (x2 : Int32) (mi : Nat → Nat → Int32) (ml : Nat → Nat → Int64)
    (h : ∃ (r3 : Int32) (mi1 : Nat → Nat → Int32) (ml2 : Nat → Nat → Int64), call 34 [.ref 25, .int 0] (ab_G (ab_ui (ab_ui (ab_ui mi 38 3 x2) 38 4 0) 38 5 (-1)) ml) (some (.int r3)) (ab_G mi1 ml2) ∧ (((r3 = 0) → (Q none (ab_G mi1 ml2))) ∧ (¬ (r3 = 0) → (∃ (mi4 : Nat → Nat → Int32) (ml5 : Nat → Nat → Int64), call 38 [.ref 38] (ab_G mi1 ml2) none (ab_G mi4 ml5) ∧ (((x1 = 1) → (∃ (mi6 : Nat → Nat → Int32) (ml7 : Nat → Nat → Int64), call 41 [.ref 38] (ab_G mi4 ml5) none (ab_G mi6 ml7) ∧ (Q none (ab_G mi6 ml7)))) ∧ (¬ (x1 = 1) → (∃ (mi8 : Nat → Nat → Int32) (ml9 : Nat → Nat → Int64), call 39 [.ref 38] (ab_G mi4 ml5) none (ab_G mi8 ml9) ∧ (((x1 = 2) → (∃ (mi10 : Nat → Nat → Int32) (ml11 : Nat → Nat → Int64), call 42 [.ref 38] (ab_G mi8 ml9) none (ab_G mi10 ml11) ∧ (Q none (ab_G mi10 ml11)))) ∧ (¬ (x1 = 2) → (∃ (mi12 : Nat → Nat → Int32) (ml13 : Nat → Nat → Int64), call 43 [.ref 38] (ab_G mi8 ml9) none (ab_G mi12 ml13) ∧ (Q none (ab_G mi12 ml13)))))))))))) :
    ab_W call ro 0 0 (ab_lk2 pl_X5_seek) Q (0, [some (.ref 38), some (.int x1), some (.int x2)], [], 0, 0, ab_G mi ml) := by
  obtain ⟨r3, mi1, ml2, hc, h⟩ := h
  refine ab_wc 13 (c := 34) (as := [.ref 25, .int 0]) (pc := 23) (ll := [some (.ref 38), some (.int x1), some (.int x2)]) (st := []) (c1 := 0) (s1 := 0) (g := (ab_G (ab_ui (ab_ui (ab_ui mi 38 3 x2) 38 4 0) 38 5 (-1)) ml)) rfl ⟨trivial, trivial, trivial, trivial, trivial, trivial, trivial, trivial, trivial, trivial, trivial, trivial, trivial⟩ hc ?_
  refine ab_wk 1 (f' := (if r3 = 0 then 26 else 27, [some (.ref 38), some (.int x1), some (.int x2)], [], 0, 0, (ab_G mi1 ml2))) rfl ⟨trivial, trivial⟩ ?_
  refine ab_wi (fun c => ?_) (fun c => ?_)
  · have h := h.1 c
    exact ab_wr 1 rfl trivial h
  · have h := h.2 c
    obtain ⟨mi4, ml5, hc, h⟩ := h
    refine ab_wc 2 (c := 38) (as := [.ref 38]) (pc := 31) (ll := [some (.ref 38), some (.int x1), some (.int x2)]) (st := []) (c1 := 0) (s1 := 0) (g := (ab_G mi1 ml2)) rfl ⟨trivial, trivial⟩ hc ?_
    refine ab_wk 3 (f' := (if x1 = 1 then 36 else 41, [some (.ref 38), some (.int x1), some (.int x2)], [], 0, 0, (ab_G mi4 ml5))) rfl ⟨trivial, trivial, trivial, trivial⟩ ?_
    refine ab_wi (fun c => ?_) (fun c => ?_)
    · have h := h.1 c
      obtain ⟨mi6, ml7, hc, h⟩ := h
      refine ab_wc 2 (c := 41) (as := [.ref 38]) (pc := 40) (ll := [some (.ref 38), some (.int x1), some (.int x2)]) (st := []) (c1 := 0) (s1 := 0) (g := (ab_G mi4 ml5)) rfl ⟨trivial, trivial⟩ hc ?_
      exact ab_wr 1 rfl trivial h
    · have h := h.2 c
      obtain ⟨mi8, ml9, hc, h⟩ := h
      refine ab_wc 2 (c := 39) (as := [.ref 38]) (pc := 45) (ll := [some (.ref 38), some (.int x1), some (.int x2)]) (st := []) (c1 := 0) (s1 := 0) (g := (ab_G mi4 ml5)) rfl ⟨trivial, trivial⟩ hc ?_
      refine ab_wk 3 (f' := (if x1 = 2 then 50 else 57, [some (.ref 38), some (.int x1), some (.int x2)], [], 0, 0, (ab_G mi8 ml9))) rfl ⟨trivial, trivial, trivial, trivial⟩ ?_
      refine ab_wi (fun c => ?_) (fun c => ?_)
      · have h := h.1 c
        obtain ⟨mi10, ml11, hc, h⟩ := h
        refine ab_wc 2 (c := 42) (as := [.ref 38]) (pc := 54) (ll := [some (.ref 38), some (.int x1), some (.int x2)]) (st := []) (c1 := 0) (s1 := 0) (g := (ab_G mi8 ml9)) rfl ⟨trivial, trivial⟩ hc ?_
        exact ab_wr 2 rfl ⟨trivial, trivial⟩ h
      · have h := h.2 c
        obtain ⟨mi12, ml13, hc, h⟩ := h
        refine ab_wc 2 (c := 43) (as := [.ref 38]) (pc := 61) (ll := [some (.ref 38), some (.int x1), some (.int x2)]) (st := []) (c1 := 0) (s1 := 0) (g := (ab_G mi8 ml9)) rfl ⟨trivial, trivial⟩ hc ?_
        exact ab_wr 1 rfl trivial h
theorem vc_X5_findAlone_0 {call : Nat → List Value → ab_S → Option Value → ab_S → Prop} {ro : ab_E} {Q : Option Value → ab_S → Prop}  (mi : Nat → Nat → Int32) (ml : Nat → Nat → Int64)
    (h : ab_W call ro 0 0 (ab_lk2 pl_X5_findAlone) Q (7, [some (.ref 38), some (.int 0)], [], 0, 0, (ab_G (ab_ui mi 38 1 0) ml))) :
    ab_W call ro 0 0 (ab_lk2 pl_X5_findAlone) Q (0, [some (.ref 38), none], [], 0, 0, ab_G mi ml) := by
  exact ab_wk 5 (f' := (7, [some (.ref 38), some (.int 0)], [], 0, 0, (ab_G (ab_ui mi 38 1 0) ml))) rfl ⟨trivial, trivial, trivial, trivial, trivial, trivial⟩ h
theorem vc_X5_findAlone_7 {call : Nat → List Value → ab_S → Option Value → ab_S → Prop} {ro : ab_E} {Q : Option Value → ab_S → Prop} (y1 : Int32) (mi : Nat → Nat → Int32) (ml : Nat → Nat → Int64)
    (h : ((y1 < (mi 25 4)) → (∃ (r3 : Int32) (mi1 : Nat → Nat → Int32) (ml2 : Nat → Nat → Int64), call 34 [.ref 25, .int ((1 : Int32) <<< (y1 &&& 31))] (ab_G mi ml) (some (.int r3)) (ab_G mi1 ml2) ∧ (((r3 = 0) → (ab_W call ro 0 0 (ab_lk2 pl_X5_findAlone) Q (7, [some (.ref 38), some (.int (y1 + 1))], [], 0, 0, (ab_G mi1 ml2)))) ∧ (¬ (r3 = 0) → (ab_W call ro 0 0 (ab_lk2 pl_X5_findAlone) Q (7, [some (.ref 38), some (.int (y1 + 1))], [], 0, 0, (ab_G (ab_ui mi1 38 1 ((mi1 38 1) ||| ((1 : Int32) <<< (y1 &&& 31)))) ml2))))))) ∧ (¬ (y1 < (mi 25 4)) → (Q none (ab_G mi ml)))) :
    ab_W call ro 0 0 (ab_lk2 pl_X5_findAlone) Q (7, [some (.ref 38), some (.int y1)], [], 0, 0, ab_G mi ml) := by
  refine ab_wk 5 (f' := (if y1 < (mi 25 4) then 18 else 49, [some (.ref 38), some (.int y1)], [], 0, 0, (ab_G mi ml))) rfl ⟨trivial, trivial, trivial, trivial, trivial, trivial⟩ ?_
  refine ab_wi (fun c => ?_) (fun c => ?_)
  · have h := h.1 c
    obtain ⟨r3, mi1, ml2, hc, h⟩ := h
    refine ab_wc 6 (c := 34) (as := [.ref 25, .int ((1 : Int32) <<< (y1 &&& 31))]) (pc := 28) (ll := [some (.ref 38), some (.int y1)]) (st := []) (c1 := 0) (s1 := 0) (g := (ab_G mi ml)) rfl ⟨trivial, trivial, trivial, trivial, trivial, trivial⟩ hc ?_
    refine ab_wk 1 (f' := (if r3 = 0 then 43 else 31, [some (.ref 38), some (.int y1)], [], 0, 0, (ab_G mi1 ml2))) rfl ⟨trivial, trivial⟩ ?_
    refine ab_wi (fun c => ?_) (fun c => ?_)
    · have h := h.1 c
      exact ab_wk 2 (f' := (7, [some (.ref 38), some (.int (y1 + 1))], [], 0, 0, (ab_G mi1 ml2))) rfl ⟨trivial, trivial, trivial⟩ h
    · have h := h.2 c
      exact ab_wk 10 (f' := (7, [some (.ref 38), some (.int (y1 + 1))], [], 0, 0, (ab_G (ab_ui mi1 38 1 ((mi1 38 1) ||| ((1 : Int32) <<< (y1 &&& 31)))) ml2))) rfl ⟨trivial, trivial, trivial, trivial, trivial, trivial, trivial, trivial, trivial, trivial, trivial⟩ h
  · have h := h.2 c
    exact ab_wr 1 rfl trivial h
theorem vc_X5_findPartners_0 {call : Nat → List Value → ab_S → Option Value → ab_S → Prop} {ro : ab_E} {Q : Option Value → ab_S → Prop}  (mi : Nat → Nat → Int32) (ml : Nat → Nat → Int64)
    (h : ab_W call ro 0 0 (ab_lk2 pl_X5_findPartners) Q (2, [some (.ref 38), some (.int 0), none, none], [], 0, 0, (ab_G mi ml))) :
    ab_W call ro 0 0 (ab_lk2 pl_X5_findPartners) Q (0, [some (.ref 38), none, none, none], [], 0, 0, ab_G mi ml) := by
  exact ab_wk 2 (f' := (2, [some (.ref 38), some (.int 0), none, none], [], 0, 0, (ab_G mi ml))) rfl ⟨trivial, trivial, trivial⟩ h
theorem vc_X5_findPartners_2 {call : Nat → List Value → ab_S → Option Value → ab_S → Prop} {ro : ab_E} {Q : Option Value → ab_S → Prop} (y1 : Int32) (mi : Nat → Nat → Int32) (ml : Nat → Nat → Int64)
    (h : ((y1 < (mi 25 4)) → (vp_in y1 30 ∧ (ab_W call ro 0 0 (ab_lk2 pl_X5_findPartners) Q (22, [some (.ref 38), some (.int y1), some (.int 0), none], [], 0, 0, (ab_G (ab_ui mi 39 (y1).toNatClampNeg 0) ml))))) ∧ (¬ (y1 < (mi 25 4)) → (Q none (ab_G mi ml)))) :
    ab_W call ro 0 0 (ab_lk2 pl_X5_findPartners) Q (2, [some (.ref 38), some (.int y1), none, none], [], 0, 0, ab_G mi ml) := by
  refine ab_wk 5 (f' := (if y1 < (mi 25 4) then 13 else 80, [some (.ref 38), some (.int y1), none, none], [], 0, 0, (ab_G mi ml))) rfl ⟨trivial, trivial, trivial, trivial, trivial, trivial⟩ ?_
  refine ab_wi (fun c => ?_) (fun c => ?_)
  · have h := h.1 c
    obtain ⟨p0, h⟩ := h
    exact ab_wk 7 (f' := (22, [some (.ref 38), some (.int y1), some (.int 0), none], [], 0, 0, (ab_G (ab_ui mi 39 (y1).toNatClampNeg 0) ml))) rfl ⟨trivial, trivial, trivial, trivial, p0, trivial, trivial, trivial⟩ h
  · have h := h.2 c
    exact ab_wr 1 rfl trivial h
theorem vc_X5_findPartners_22 {call : Nat → List Value → ab_S → Option Value → ab_S → Prop} {ro : ab_E} {Q : Option Value → ab_S → Prop} (y1 : Int32) (y2 : Int32) (mi : Nat → Nat → Int32) (ml : Nat → Nat → Int64)
    (h : ((y2 < y1) → (((((mi 38 1) &&& (((1 : Int32) <<< (y1 &&& 31)) ||| ((1 : Int32) <<< (y2 &&& 31)))) = (((1 : Int32) <<< (y1 &&& 31)) ||| ((1 : Int32) <<< (y2 &&& 31)))) → (∃ (r3 : Int32) (mi1 : Nat → Nat → Int32) (ml2 : Nat → Nat → Int64), call 34 [.ref 25, .int (((1 : Int32) <<< (y1 &&& 31)) ||| ((1 : Int32) <<< (y2 &&& 31)))] (ab_G mi ml) (some (.int r3)) (ab_G mi1 ml2) ∧ (((r3 = 0) → (ab_W call ro 0 0 (ab_lk2 pl_X5_findPartners) Q (22, [some (.ref 38), some (.int y1), some (.int (y2 + 1)), none], [], 0, 0, (ab_G mi1 ml2)))) ∧ (¬ (r3 = 0) → (vp_in y2 30 ∧ (vp_in y2 30 ∧ (ab_W call ro 0 0 (ab_lk2 pl_X5_findPartners) Q (22, [some (.ref 38), some (.int y1), some (.int (y2 + 1)), none], [], 0, 0, (ab_G (ab_ui mi1 39 (y2).toNatClampNeg ((mi1 39 (y2).toNatClampNeg) ||| ((1 : Int32) <<< (y1 &&& 31)))) ml2))))))))) ∧ (¬ (((mi 38 1) &&& (((1 : Int32) <<< (y1 &&& 31)) ||| ((1 : Int32) <<< (y2 &&& 31)))) = (((1 : Int32) <<< (y1 &&& 31)) ||| ((1 : Int32) <<< (y2 &&& 31)))) → (ab_W call ro 0 0 (ab_lk2 pl_X5_findPartners) Q (22, [some (.ref 38), some (.int y1), some (.int (y2 + 1)), none], [], 0, 0, (ab_G mi ml)))))) ∧ (¬ (y2 < y1) → (ab_W call ro 0 0 (ab_lk2 pl_X5_findPartners) Q (2, [some (.ref 38), some (.int (y1 + 1)), none, none], [], 0, 0, (ab_G mi ml))))) :
    ab_W call ro 0 0 (ab_lk2 pl_X5_findPartners) Q (22, [some (.ref 38), some (.int y1), some (.int y2), none], [], 0, 0, ab_G mi ml) := by
  refine ab_wk 3 (f' := (if y2 < y1 then 27 else 74, [some (.ref 38), some (.int y1), some (.int y2), none], [], 0, 0, (ab_G mi ml))) rfl ⟨trivial, trivial, trivial, trivial⟩ ?_
  refine ab_wi (fun c => ?_) (fun c => ?_)
  · have h := h.1 c
    refine ab_wk 14 (f' := (if ((mi 38 1) &&& (((1 : Int32) <<< (y1 &&& 31)) ||| ((1 : Int32) <<< (y2 &&& 31)))) = (((1 : Int32) <<< (y1 &&& 31)) ||| ((1 : Int32) <<< (y2 &&& 31))) then 45 else 68, [some (.ref 38), some (.int y1), some (.int y2), some (.int (((1 : Int32) <<< (y1 &&& 31)) ||| ((1 : Int32) <<< (y2 &&& 31))))], [], 0, 0, (ab_G mi ml))) rfl ⟨trivial, trivial, trivial, trivial, trivial, trivial, trivial, trivial, trivial, trivial, trivial, trivial, trivial, trivial, trivial⟩ ?_
    refine ab_wi (fun c => ?_) (fun c => ?_)
    · have h := h.1 c
      obtain ⟨r3, mi1, ml2, hc, h⟩ := h
      refine ab_wc 4 (c := 34) (as := [.ref 25, .int (((1 : Int32) <<< (y1 &&& 31)) ||| ((1 : Int32) <<< (y2 &&& 31)))]) (pc := 53) (ll := [some (.ref 38), some (.int y1), some (.int y2), some (.int (((1 : Int32) <<< (y1 &&& 31)) ||| ((1 : Int32) <<< (y2 &&& 31))))]) (st := []) (c1 := 0) (s1 := 0) (g := (ab_G mi ml)) rfl ⟨trivial, trivial, trivial, trivial⟩ hc ?_
      refine ab_wk 1 (f' := (if r3 = 0 then 68 else 56, [some (.ref 38), some (.int y1), some (.int y2), some (.int (((1 : Int32) <<< (y1 &&& 31)) ||| ((1 : Int32) <<< (y2 &&& 31))))], [], 0, 0, (ab_G mi1 ml2))) rfl ⟨trivial, trivial⟩ ?_
      refine ab_wi (fun c => ?_) (fun c => ?_)
      · have h := h.1 c
        exact ab_wk 2 (f' := (22, [some (.ref 38), some (.int y1), some (.int (y2 + 1)), some (.int (((1 : Int32) <<< (y1 &&& 31)) ||| ((1 : Int32) <<< (y2 &&& 31))))], [], 0, 0, (ab_G mi1 ml2))) rfl ⟨trivial, trivial, trivial⟩ (ab_drop h (ab_lrc _ (ab_lrc _ (ab_lrc _ (ab_lrn _ ab_lr0)))))
      · have h := h.2 c
        obtain ⟨p0, p1, h⟩ := h
        exact ab_wk 12 (f' := (22, [some (.ref 38), some (.int y1), some (.int (y2 + 1)), some (.int (((1 : Int32) <<< (y1 &&& 31)) ||| ((1 : Int32) <<< (y2 &&& 31))))], [], 0, 0, (ab_G (ab_ui mi1 39 (y2).toNatClampNeg ((mi1 39 (y2).toNatClampNeg) ||| ((1 : Int32) <<< (y1 &&& 31)))) ml2))) rfl ⟨trivial, trivial, trivial, trivial, p0, trivial, trivial, trivial, trivial, p1, trivial, trivial, trivial⟩ (ab_drop h (ab_lrc _ (ab_lrc _ (ab_lrc _ (ab_lrn _ ab_lr0)))))
    · have h := h.2 c
      exact ab_wk 2 (f' := (22, [some (.ref 38), some (.int y1), some (.int (y2 + 1)), some (.int (((1 : Int32) <<< (y1 &&& 31)) ||| ((1 : Int32) <<< (y2 &&& 31))))], [], 0, 0, (ab_G mi ml))) rfl ⟨trivial, trivial, trivial⟩ (ab_drop h (ab_lrc _ (ab_lrc _ (ab_lrc _ (ab_lrn _ ab_lr0)))))
  · have h := h.2 c
    exact ab_wk 2 (f' := (2, [some (.ref 38), some (.int (y1 + 1)), some (.int y2), none], [], 0, 0, (ab_G mi ml))) rfl ⟨trivial, trivial, trivial⟩ (ab_drop h (ab_lrc _ (ab_lrc _ (ab_lrn _ (ab_lrc _ ab_lr0)))))
theorem vc_X5_meet_0 {call : Nat → List Value → ab_S → Option Value → ab_S → Prop} {ro : ab_E} {Q : Option Value → ab_S → Prop} (x1 : Int32) (mi : Nat → Nat → Int32) (ml : Nat → Nat → Int64)
    (h : (((mi 38 4) = (mi 38 3)) → (Q none (ab_G (ab_ui (ab_ui mi 38 5 x1) 38 4 ((mi 38 4) + 1)) ml))) ∧ (¬ ((mi 38 4) = (mi 38 3)) → (Q none (ab_G (ab_ui mi 38 4 ((mi 38 4) + 1)) ml)))) :
    ab_W call ro 0 0 (ab_lk2 pl_X5_meet) Q (0, [some (.ref 38), some (.int x1)], [], 0, 0, ab_G mi ml) := by
  refine ab_wk 5 (f' := (if (mi 38 4) = (mi 38 3) then 11 else 16, [some (.ref 38), some (.int x1)], [], 0, 0, (ab_G mi ml))) rfl ⟨trivial, trivial, trivial, trivial, trivial, trivial⟩ ?_
  refine ab_wi (fun c => ?_) (fun c => ?_)
  · have h := h.1 c
    exact ab_wr 10 rfl ⟨trivial, trivial, trivial, trivial, trivial, trivial, trivial, trivial, trivial, trivial⟩ h
  · have h := h.2 c
    exact ab_wr 7 rfl ⟨trivial, trivial, trivial, trivial, trivial, trivial, trivial⟩ h
theorem vc_X5_seekOnes_0 {call : Nat → List Value → ab_S → Option Value → ab_S → Prop} {ro : ab_E} {Q : Option Value → ab_S → Prop}  (mi : Nat → Nat → Int32) (ml : Nat → Nat → Int64)
    (h : ab_W call ro 0 0 (ab_lk2 pl_X5_seekOnes) Q (2, [some (.ref 38), some (.int 0)], [], 0, 0, (ab_G mi ml))) :
    ab_W call ro 0 0 (ab_lk2 pl_X5_seekOnes) Q (0, [some (.ref 38), none], [], 0, 0, ab_G mi ml) := by
  exact ab_wk 2 (f' := (2, [some (.ref 38), some (.int 0)], [], 0, 0, (ab_G mi ml))) rfl ⟨trivial, trivial, trivial⟩ h
theorem vc_X5_seekOnes_2 {call : Nat → List Value → ab_S → Option Value → ab_S → Prop} {ro : ab_E} {Q : Option Value → ab_S → Prop} (y1 : Int32) (mi : Nat → Nat → Int32) (ml : Nat → Nat → Int64)
    (h : ((y1 < (mi 25 4)) → ((((((mi 38 1) >>> (y1 &&& 31)) &&& 1) = 0) → (∃ (mi1 : Nat → Nat → Int32) (ml2 : Nat → Nat → Int64), call 40 [.ref 38, .int ((1 : Int32) <<< (y1 &&& 31))] (ab_G mi ml) none (ab_G mi1 ml2) ∧ (ab_W call ro 0 0 (ab_lk2 pl_X5_seekOnes) Q (2, [some (.ref 38), some (.int (y1 + 1))], [], 0, 0, (ab_G mi1 ml2))))) ∧ (¬ ((((mi 38 1) >>> (y1 &&& 31)) &&& 1) = 0) → (ab_W call ro 0 0 (ab_lk2 pl_X5_seekOnes) Q (2, [some (.ref 38), some (.int (y1 + 1))], [], 0, 0, (ab_G mi ml)))))) ∧ (¬ (y1 < (mi 25 4)) → (Q none (ab_G mi ml)))) :
    ab_W call ro 0 0 (ab_lk2 pl_X5_seekOnes) Q (2, [some (.ref 38), some (.int y1)], [], 0, 0, ab_G mi ml) := by
  refine ab_wk 5 (f' := (if y1 < (mi 25 4) then 13 else 37, [some (.ref 38), some (.int y1)], [], 0, 0, (ab_G mi ml))) rfl ⟨trivial, trivial, trivial, trivial, trivial, trivial⟩ ?_
  refine ab_wi (fun c => ?_) (fun c => ?_)
  · have h := h.1 c
    refine ab_wk 7 (f' := (if (((mi 38 1) >>> (y1 &&& 31)) &&& 1) = 0 then 24 else 31, [some (.ref 38), some (.int y1)], [], 0, 0, (ab_G mi ml))) rfl ⟨trivial, trivial, trivial, trivial, trivial, trivial, trivial, trivial⟩ ?_
    refine ab_wi (fun c => ?_) (fun c => ?_)
    · have h := h.1 c
      obtain ⟨mi1, ml2, hc, h⟩ := h
      refine ab_wc 5 (c := 40) (as := [.ref 38, .int ((1 : Int32) <<< (y1 &&& 31))]) (pc := 31) (ll := [some (.ref 38), some (.int y1)]) (st := []) (c1 := 0) (s1 := 0) (g := (ab_G mi ml)) rfl ⟨trivial, trivial, trivial, trivial, trivial⟩ hc ?_
      exact ab_wk 2 (f' := (2, [some (.ref 38), some (.int (y1 + 1))], [], 0, 0, (ab_G mi1 ml2))) rfl ⟨trivial, trivial, trivial⟩ h
    · have h := h.2 c
      exact ab_wk 2 (f' := (2, [some (.ref 38), some (.int (y1 + 1))], [], 0, 0, (ab_G mi ml))) rfl ⟨trivial, trivial, trivial⟩ h
  · have h := h.2 c
    exact ab_wr 1 rfl trivial h
theorem vc_X5_seekTwos_0 {call : Nat → List Value → ab_S → Option Value → ab_S → Prop} {ro : ab_E} {Q : Option Value → ab_S → Prop}  (mi : Nat → Nat → Int32) (ml : Nat → Nat → Int64)
    (h : ab_W call ro 0 0 (ab_lk2 pl_X5_seekTwos) Q (2, [some (.ref 38), some (.int 0), none, none], [], 0, 0, (ab_G mi ml))) :
    ab_W call ro 0 0 (ab_lk2 pl_X5_seekTwos) Q (0, [some (.ref 38), none, none, none], [], 0, 0, ab_G mi ml) := by
  exact ab_wk 2 (f' := (2, [some (.ref 38), some (.int 0), none, none], [], 0, 0, (ab_G mi ml))) rfl ⟨trivial, trivial, trivial⟩ h
theorem vc_X5_seekTwos_2 {call : Nat → List Value → ab_S → Option Value → ab_S → Prop} {ro : ab_E} {Q : Option Value → ab_S → Prop} (y1 : Int32) (mi : Nat → Nat → Int32) (ml : Nat → Nat → Int64)
    (h : ((y1 < (mi 25 4)) → (ab_W call ro 0 0 (ab_lk2 pl_X5_seekTwos) Q (17, [some (.ref 38), some (.int y1), some (.int (y1 + 1)), none], [], 0, 0, (ab_G mi ml)))) ∧ (¬ (y1 < (mi 25 4)) → (Q none (ab_G mi ml)))) :
    ab_W call ro 0 0 (ab_lk2 pl_X5_seekTwos) Q (2, [some (.ref 38), some (.int y1), none, none], [], 0, 0, ab_G mi ml) := by
  refine ab_wk 5 (f' := (if y1 < (mi 25 4) then 13 else 76, [some (.ref 38), some (.int y1), none, none], [], 0, 0, (ab_G mi ml))) rfl ⟨trivial, trivial, trivial, trivial, trivial, trivial⟩ ?_
  refine ab_wi (fun c => ?_) (fun c => ?_)
  · have h := h.1 c
    exact ab_wk 4 (f' := (17, [some (.ref 38), some (.int y1), some (.int (y1 + 1)), none], [], 0, 0, (ab_G mi ml))) rfl ⟨trivial, trivial, trivial, trivial, trivial⟩ h
  · have h := h.2 c
    exact ab_wr 1 rfl trivial h
theorem vc_X5_seekTwos_17 {call : Nat → List Value → ab_S → Option Value → ab_S → Prop} {ro : ab_E} {Q : Option Value → ab_S → Prop} (y1 : Int32) (y2 : Int32) (mi : Nat → Nat → Int32) (ml : Nat → Nat → Int64)
    (h : ((y2 < (mi 25 4)) → (((((mi 38 1) &&& (((1 : Int32) <<< (y1 &&& 31)) ||| ((1 : Int32) <<< (y2 &&& 31)))) = (((1 : Int32) <<< (y1 &&& 31)) ||| ((1 : Int32) <<< (y2 &&& 31)))) → (vp_in y1 30 ∧ ((((((mi 39 (y1).toNatClampNeg) >>> (y2 &&& 31)) &&& 1) = 0) → (∃ (mi1 : Nat → Nat → Int32) (ml2 : Nat → Nat → Int64), call 40 [.ref 38, .int (((1 : Int32) <<< (y1 &&& 31)) ||| ((1 : Int32) <<< (y2 &&& 31)))] (ab_G mi ml) none (ab_G mi1 ml2) ∧ (ab_W call ro 0 0 (ab_lk2 pl_X5_seekTwos) Q (17, [some (.ref 38), some (.int y1), some (.int (y2 + 1)), none], [], 0, 0, (ab_G mi1 ml2))))) ∧ (¬ ((((mi 39 (y1).toNatClampNeg) >>> (y2 &&& 31)) &&& 1) = 0) → (ab_W call ro 0 0 (ab_lk2 pl_X5_seekTwos) Q (17, [some (.ref 38), some (.int y1), some (.int (y2 + 1)), none], [], 0, 0, (ab_G mi ml))))))) ∧ (¬ (((mi 38 1) &&& (((1 : Int32) <<< (y1 &&& 31)) ||| ((1 : Int32) <<< (y2 &&& 31)))) = (((1 : Int32) <<< (y1 &&& 31)) ||| ((1 : Int32) <<< (y2 &&& 31)))) → (ab_W call ro 0 0 (ab_lk2 pl_X5_seekTwos) Q (17, [some (.ref 38), some (.int y1), some (.int (y2 + 1)), none], [], 0, 0, (ab_G mi ml)))))) ∧ (¬ (y2 < (mi 25 4)) → (ab_W call ro 0 0 (ab_lk2 pl_X5_seekTwos) Q (2, [some (.ref 38), some (.int (y1 + 1)), none, none], [], 0, 0, (ab_G mi ml))))) :
    ab_W call ro 0 0 (ab_lk2 pl_X5_seekTwos) Q (17, [some (.ref 38), some (.int y1), some (.int y2), none], [], 0, 0, ab_G mi ml) := by
  refine ab_wk 5 (f' := (if y2 < (mi 25 4) then 28 else 70, [some (.ref 38), some (.int y1), some (.int y2), none], [], 0, 0, (ab_G mi ml))) rfl ⟨trivial, trivial, trivial, trivial, trivial, trivial⟩ ?_
  refine ab_wi (fun c => ?_) (fun c => ?_)
  · have h := h.1 c
    refine ab_wk 14 (f' := (if ((mi 38 1) &&& (((1 : Int32) <<< (y1 &&& 31)) ||| ((1 : Int32) <<< (y2 &&& 31)))) = (((1 : Int32) <<< (y1 &&& 31)) ||| ((1 : Int32) <<< (y2 &&& 31))) then 46 else 64, [some (.ref 38), some (.int y1), some (.int y2), some (.int (((1 : Int32) <<< (y1 &&& 31)) ||| ((1 : Int32) <<< (y2 &&& 31))))], [], 0, 0, (ab_G mi ml))) rfl ⟨trivial, trivial, trivial, trivial, trivial, trivial, trivial, trivial, trivial, trivial, trivial, trivial, trivial, trivial, trivial⟩ ?_
    refine ab_wi (fun c => ?_) (fun c => ?_)
    · have h := h.1 c
      obtain ⟨p0, h⟩ := h
      refine ab_wk 9 (f' := (if (((mi 39 (y1).toNatClampNeg) >>> (y2 &&& 31)) &&& 1) = 0 then 59 else 64, [some (.ref 38), some (.int y1), some (.int y2), some (.int (((1 : Int32) <<< (y1 &&& 31)) ||| ((1 : Int32) <<< (y2 &&& 31))))], [], 0, 0, (ab_G mi ml))) rfl ⟨trivial, trivial, trivial, p0, trivial, trivial, trivial, trivial, trivial, trivial⟩ ?_
      refine ab_wi (fun c => ?_) (fun c => ?_)
      · have h := h.1 c
        obtain ⟨mi1, ml2, hc, h⟩ := h
        refine ab_wc 3 (c := 40) (as := [.ref 38, .int (((1 : Int32) <<< (y1 &&& 31)) ||| ((1 : Int32) <<< (y2 &&& 31)))]) (pc := 64) (ll := [some (.ref 38), some (.int y1), some (.int y2), some (.int (((1 : Int32) <<< (y1 &&& 31)) ||| ((1 : Int32) <<< (y2 &&& 31))))]) (st := []) (c1 := 0) (s1 := 0) (g := (ab_G mi ml)) rfl ⟨trivial, trivial, trivial⟩ hc ?_
        exact ab_wk 2 (f' := (17, [some (.ref 38), some (.int y1), some (.int (y2 + 1)), some (.int (((1 : Int32) <<< (y1 &&& 31)) ||| ((1 : Int32) <<< (y2 &&& 31))))], [], 0, 0, (ab_G mi1 ml2))) rfl ⟨trivial, trivial, trivial⟩ (ab_drop h (ab_lrc _ (ab_lrc _ (ab_lrc _ (ab_lrn _ ab_lr0)))))
      · have h := h.2 c
        exact ab_wk 2 (f' := (17, [some (.ref 38), some (.int y1), some (.int (y2 + 1)), some (.int (((1 : Int32) <<< (y1 &&& 31)) ||| ((1 : Int32) <<< (y2 &&& 31))))], [], 0, 0, (ab_G mi ml))) rfl ⟨trivial, trivial, trivial⟩ (ab_drop h (ab_lrc _ (ab_lrc _ (ab_lrc _ (ab_lrn _ ab_lr0)))))
    · have h := h.2 c
      exact ab_wk 2 (f' := (17, [some (.ref 38), some (.int y1), some (.int (y2 + 1)), some (.int (((1 : Int32) <<< (y1 &&& 31)) ||| ((1 : Int32) <<< (y2 &&& 31))))], [], 0, 0, (ab_G mi ml))) rfl ⟨trivial, trivial, trivial⟩ (ab_drop h (ab_lrc _ (ab_lrc _ (ab_lrc _ (ab_lrn _ ab_lr0)))))
  · have h := h.2 c
    exact ab_wk 2 (f' := (2, [some (.ref 38), some (.int (y1 + 1)), some (.int y2), none], [], 0, 0, (ab_G mi ml))) rfl ⟨trivial, trivial, trivial⟩ (ab_drop h (ab_lrc _ (ab_lrc _ (ab_lrn _ (ab_lrc _ ab_lr0)))))
theorem vc_X5_seekThrees_0 {call : Nat → List Value → ab_S → Option Value → ab_S → Prop} {ro : ab_E} {Q : Option Value → ab_S → Prop}  (mi : Nat → Nat → Int32) (ml : Nat → Nat → Int64)
    (h : ab_W call ro 0 0 (ab_lk2 pl_X5_seekThrees) Q (2, [some (.ref 38), some (.int 0), none], [], 0, 0, (ab_G mi ml))) :
    ab_W call ro 0 0 (ab_lk2 pl_X5_seekThrees) Q (0, [some (.ref 38), none, none], [], 0, 0, ab_G mi ml) := by
  exact ab_wk 2 (f' := (2, [some (.ref 38), some (.int 0), none], [], 0, 0, (ab_G mi ml))) rfl ⟨trivial, trivial, trivial⟩ h
theorem vc_X5_seekThrees_2 {call : Nat → List Value → ab_S → Option Value → ab_S → Prop} {ro : ab_E} {Q : Option Value → ab_S → Prop} (y1 : Int32) (mi : Nat → Nat → Int32) (ml : Nat → Nat → Int64)
    (h : ((y1 < (mi 25 4)) → (ab_W call ro 0 0 (ab_lk2 pl_X5_seekThrees) Q (17, [some (.ref 38), some (.int y1), some (.int (y1 + 1))], [], 0, 0, (ab_G mi ml)))) ∧ (¬ (y1 < (mi 25 4)) → (Q none (ab_G mi ml)))) :
    ab_W call ro 0 0 (ab_lk2 pl_X5_seekThrees) Q (2, [some (.ref 38), some (.int y1), none], [], 0, 0, ab_G mi ml) := by
  refine ab_wk 5 (f' := (if y1 < (mi 25 4) then 13 else 59, [some (.ref 38), some (.int y1), none], [], 0, 0, (ab_G mi ml))) rfl ⟨trivial, trivial, trivial, trivial, trivial, trivial⟩ ?_
  refine ab_wi (fun c => ?_) (fun c => ?_)
  · have h := h.1 c
    exact ab_wk 4 (f' := (17, [some (.ref 38), some (.int y1), some (.int (y1 + 1))], [], 0, 0, (ab_G mi ml))) rfl ⟨trivial, trivial, trivial, trivial, trivial⟩ h
  · have h := h.2 c
    exact ab_wr 1 rfl trivial h
theorem vc_X5_seekThrees_17 {call : Nat → List Value → ab_S → Option Value → ab_S → Prop} {ro : ab_E} {Q : Option Value → ab_S → Prop} (y1 : Int32) (y2 : Int32) (mi : Nat → Nat → Int32) (ml : Nat → Nat → Int64)
    (h : ((y2 < (mi 25 4)) → (vp_in y1 30 ∧ ((((((mi 39 (y1).toNatClampNeg) >>> (y2 &&& 31)) &&& 1) = 0) → (ab_W call ro 0 0 (ab_lk2 pl_X5_seekThrees) Q (17, [some (.ref 38), some (.int y1), some (.int (y2 + 1))], [], 0, 0, (ab_G mi ml)))) ∧ (¬ ((((mi 39 (y1).toNatClampNeg) >>> (y2 &&& 31)) &&& 1) = 0) → (∃ (mi1 : Nat → Nat → Int32) (ml2 : Nat → Nat → Int64), call 44 [.ref 38, .int y1, .int y2] (ab_G mi ml) none (ab_G mi1 ml2) ∧ (ab_W call ro 0 0 (ab_lk2 pl_X5_seekThrees) Q (17, [some (.ref 38), some (.int y1), some (.int (y2 + 1))], [], 0, 0, (ab_G mi1 ml2)))))))) ∧ (¬ (y2 < (mi 25 4)) → (ab_W call ro 0 0 (ab_lk2 pl_X5_seekThrees) Q (2, [some (.ref 38), some (.int (y1 + 1)), none], [], 0, 0, (ab_G mi ml))))) :
    ab_W call ro 0 0 (ab_lk2 pl_X5_seekThrees) Q (17, [some (.ref 38), some (.int y1), some (.int y2)], [], 0, 0, ab_G mi ml) := by
  refine ab_wk 5 (f' := (if y2 < (mi 25 4) then 28 else 53, [some (.ref 38), some (.int y1), some (.int y2)], [], 0, 0, (ab_G mi ml))) rfl ⟨trivial, trivial, trivial, trivial, trivial, trivial⟩ ?_
  refine ab_wi (fun c => ?_) (fun c => ?_)
  · have h := h.1 c
    obtain ⟨p0, h⟩ := h
    refine ab_wk 9 (f' := (if (((mi 39 (y1).toNatClampNeg) >>> (y2 &&& 31)) &&& 1) = 0 then 47 else 41, [some (.ref 38), some (.int y1), some (.int y2)], [], 0, 0, (ab_G mi ml))) rfl ⟨trivial, trivial, trivial, p0, trivial, trivial, trivial, trivial, trivial, trivial⟩ ?_
    refine ab_wi (fun c => ?_) (fun c => ?_)
    · have h := h.1 c
      exact ab_wk 2 (f' := (17, [some (.ref 38), some (.int y1), some (.int (y2 + 1))], [], 0, 0, (ab_G mi ml))) rfl ⟨trivial, trivial, trivial⟩ h
    · have h := h.2 c
      obtain ⟨mi1, ml2, hc, h⟩ := h
      refine ab_wc 4 (c := 44) (as := [.ref 38, .int y1, .int y2]) (pc := 47) (ll := [some (.ref 38), some (.int y1), some (.int y2)]) (st := []) (c1 := 0) (s1 := 0) (g := (ab_G mi ml)) rfl ⟨trivial, trivial, trivial, trivial⟩ hc ?_
      exact ab_wk 2 (f' := (17, [some (.ref 38), some (.int y1), some (.int (y2 + 1))], [], 0, 0, (ab_G mi1 ml2))) rfl ⟨trivial, trivial, trivial⟩ h
  · have h := h.2 c
    exact ab_wk 2 (f' := (2, [some (.ref 38), some (.int (y1 + 1)), some (.int y2)], [], 0, 0, (ab_G mi ml))) rfl ⟨trivial, trivial, trivial⟩ (ab_drop h (ab_lrc _ (ab_lrc _ (ab_lrn _ ab_lr0))))
theorem vc_X5_seekThirds_0 {call : Nat → List Value → ab_S → Option Value → ab_S → Prop} {ro : ab_E} {Q : Option Value → ab_S → Prop} (x1 : Int32) (x2 : Int32) (mi : Nat → Nat → Int32) (ml : Nat → Nat → Int64)
    (h : vp_in x1 30 ∧ (vp_in x2 30 ∧ (ab_W call ro 0 0 (ab_lk2 pl_X5_seekThirds) Q (28, [some (.ref 38), some (.int x1), some (.int x2), some (.int ((mi 39 (x1).toNatClampNeg) &&& (mi 39 (x2).toNatClampNeg))), some (.int (((1 : Int32) <<< (x1 &&& 31)) ||| ((1 : Int32) <<< (x2 &&& 31)))), some (.int (x2 + 1))], [], 0, 0, (ab_G mi ml))))) :
    ab_W call ro 0 0 (ab_lk2 pl_X5_seekThirds) Q (0, [some (.ref 38), some (.int x1), some (.int x2), none, none, none], [], 0, 0, ab_G mi ml) := by
  obtain ⟨p0, p1, h⟩ := h
  exact ab_wk 22 (f' := (28, [some (.ref 38), some (.int x1), some (.int x2), some (.int ((mi 39 (x1).toNatClampNeg) &&& (mi 39 (x2).toNatClampNeg))), some (.int (((1 : Int32) <<< (x1 &&& 31)) ||| ((1 : Int32) <<< (x2 &&& 31)))), some (.int (x2 + 1))], [], 0, 0, (ab_G mi ml))) rfl ⟨trivial, trivial, trivial, p0, trivial, trivial, trivial, p1, trivial, trivial, trivial, trivial, trivial, trivial, trivial, trivial, trivial, trivial, trivial, trivial, trivial, trivial, trivial⟩ h
theorem vc_X5_seekThirds_28 {call : Nat → List Value → ab_S → Option Value → ab_S → Prop} {ro : ab_E} {Q : Option Value → ab_S → Prop} (y1 : Int32) (y2 : Int32) (y3 : Int32) (y4 : Int32) (y5 : Int32) (mi : Nat → Nat → Int32) (ml : Nat → Nat → Int64)
    (h : ((y5 < (mi 25 4)) → (((((y3 >>> (y5 &&& 31)) &&& 1) = 0) → (ab_W call ro 0 0 (ab_lk2 pl_X5_seekThirds) Q (28, [some (.ref 38), some (.int y1), some (.int y2), some (.int y3), some (.int y4), some (.int (y5 + 1))], [], 0, 0, (ab_G mi ml)))) ∧ (¬ (((y3 >>> (y5 &&& 31)) &&& 1) = 0) → (∃ (r3 : Int32) (mi1 : Nat → Nat → Int32) (ml2 : Nat → Nat → Int64), call 34 [.ref 25, .int (y4 ||| ((1 : Int32) <<< (y5 &&& 31)))] (ab_G mi ml) (some (.int r3)) (ab_G mi1 ml2) ∧ (((r3 = 0) → (∃ (mi4 : Nat → Nat → Int32) (ml5 : Nat → Nat → Int64), call 40 [.ref 38, .int (y4 ||| ((1 : Int32) <<< (y5 &&& 31)))] (ab_G mi1 ml2) none (ab_G mi4 ml5) ∧ (ab_W call ro 0 0 (ab_lk2 pl_X5_seekThirds) Q (28, [some (.ref 38), some (.int y1), some (.int y2), some (.int y3), some (.int y4), some (.int (y5 + 1))], [], 0, 0, (ab_G mi4 ml5))))) ∧ (¬ (r3 = 0) → (ab_W call ro 0 0 (ab_lk2 pl_X5_seekThirds) Q (28, [some (.ref 38), some (.int y1), some (.int y2), some (.int y3), some (.int y4), some (.int (y5 + 1))], [], 0, 0, (ab_G mi1 ml2))))))))) ∧ (¬ (y5 < (mi 25 4)) → (Q none (ab_G mi ml)))) :
    ab_W call ro 0 0 (ab_lk2 pl_X5_seekThirds) Q (28, [some (.ref 38), some (.int y1), some (.int y2), some (.int y3), some (.int y4), some (.int y5)], [], 0, 0, ab_G mi ml) := by
  refine ab_wk 5 (f' := (if y5 < (mi 25 4) then 40 else 83, [some (.ref 38), some (.int y1), some (.int y2), some (.int y3), some (.int y4), some (.int y5)], [], 0, 0, (ab_G mi ml))) rfl ⟨trivial, trivial, trivial, trivial, trivial, trivial⟩ ?_
  refine ab_wi (fun c => ?_) (fun c => ?_)
  · have h := h.1 c
    refine ab_wk 6 (f' := (if ((y3 >>> (y5 &&& 31)) &&& 1) = 0 then 77 else 49, [some (.ref 38), some (.int y1), some (.int y2), some (.int y3), some (.int y4), some (.int y5)], [], 0, 0, (ab_G mi ml))) rfl ⟨trivial, trivial, trivial, trivial, trivial, trivial, trivial⟩ ?_
    refine ab_wi (fun c => ?_) (fun c => ?_)
    · have h := h.1 c
      exact ab_wk 2 (f' := (28, [some (.ref 38), some (.int y1), some (.int y2), some (.int y3), some (.int y4), some (.int (y5 + 1))], [], 0, 0, (ab_G mi ml))) rfl ⟨trivial, trivial, trivial⟩ h
    · have h := h.2 c
      obtain ⟨r3, mi1, ml2, hc, h⟩ := h
      refine ab_wc 8 (c := 34) (as := [.ref 25, .int (y4 ||| ((1 : Int32) <<< (y5 &&& 31)))]) (pc := 63) (ll := [some (.ref 38), some (.int y1), some (.int y2), some (.int y3), some (.int y4), some (.int y5)]) (st := []) (c1 := 0) (s1 := 0) (g := (ab_G mi ml)) rfl ⟨trivial, trivial, trivial, trivial, trivial, trivial, trivial, trivial⟩ hc ?_
      refine ab_wk 1 (f' := (if r3 = 0 then 66 else 77, [some (.ref 38), some (.int y1), some (.int y2), some (.int y3), some (.int y4), some (.int y5)], [], 0, 0, (ab_G mi1 ml2))) rfl ⟨trivial, trivial⟩ ?_
      refine ab_wi (fun c => ?_) (fun c => ?_)
      · have h := h.1 c
        obtain ⟨mi4, ml5, hc, h⟩ := h
        refine ab_wc 7 (c := 40) (as := [.ref 38, .int (y4 ||| ((1 : Int32) <<< (y5 &&& 31)))]) (pc := 77) (ll := [some (.ref 38), some (.int y1), some (.int y2), some (.int y3), some (.int y4), some (.int y5)]) (st := []) (c1 := 0) (s1 := 0) (g := (ab_G mi1 ml2)) rfl ⟨trivial, trivial, trivial, trivial, trivial, trivial, trivial⟩ hc ?_
        exact ab_wk 2 (f' := (28, [some (.ref 38), some (.int y1), some (.int y2), some (.int y3), some (.int y4), some (.int (y5 + 1))], [], 0, 0, (ab_G mi4 ml5))) rfl ⟨trivial, trivial, trivial⟩ h
      · have h := h.2 c
        exact ab_wk 2 (f' := (28, [some (.ref 38), some (.int y1), some (.int y2), some (.int y3), some (.int y4), some (.int (y5 + 1))], [], 0, 0, (ab_G mi1 ml2))) rfl ⟨trivial, trivial, trivial⟩ h
  · have h := h.2 c
    exact ab_wr 1 rfl trivial h
