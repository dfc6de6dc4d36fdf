theorem vc_X0_forget_0 {call : Nat → List Value → ab_S → Option Value → ab_S → Prop} {ro : ab_E} {Q : Option Value → ab_S → Prop}  (mi : Nat → Nat → Int32) (ml : Nat → Nat → Int64)
    (h : ab_W call ro 0 0 (ab_lk2 pl_X0_forget) Q (2, [some (.ref 36), some (.int 0)], [], 0, 0, (ab_G mi ml))) :
    ab_W call ro 0 0 (ab_lk2 pl_X0_forget) Q (0, [some (.ref 36), none], [], 0, 0, ab_G mi ml) := by
  exact ab_wk 2 (f' := (2, [some (.ref 36), some (.int 0)], [], 0, 0, (ab_G mi ml))) rfl ⟨trivial, trivial, trivial⟩ h
theorem vc_X0_forget_2 {call : Nat → List Value → ab_S → Option Value → ab_S → Prop} {ro : ab_E} {Q : Option Value → ab_S → Prop} (y1 : Int32) (mi : Nat → Nat → Int32) (ml : Nat → Nat → Int64)
    (h : ((y1 < 7) → (vp_in y1 7 ∧ (ab_W call ro 0 0 (ab_lk2 pl_X0_forget) Q (2, [some (.ref 36), some (.int (y1 + 1))], [], 0, 0, (ab_G (ab_ui mi 37 (y1).toNatClampNeg 0) ml))))) ∧ (¬ (y1 < 7) → (Q none (ab_G mi ml)))) :
    ab_W call ro 0 0 (ab_lk2 pl_X0_forget) Q (2, [some (.ref 36), some (.int y1)], [], 0, 0, ab_G mi ml) := by
  refine ab_wk 3 (f' := (if y1 < 7 then 8 else 21, [some (.ref 36), some (.int y1)], [], 0, 0, (ab_G mi ml))) rfl ⟨trivial, trivial, trivial, trivial⟩ ?_
  refine ab_wi (fun c => ?_) (fun c => ?_)
  · have h := h.1 c
    obtain ⟨p0, h⟩ := h
    exact ab_wk 7 (f' := (2, [some (.ref 36), some (.int (y1 + 1))], [], 0, 0, (ab_G (ab_ui mi 37 (y1).toNatClampNeg 0) ml))) rfl ⟨trivial, trivial, trivial, trivial, p0, trivial, trivial, trivial⟩ h
  · have h := h.2 c
    exact ab_wr 1 rfl trivial h
theorem vc_X0_cast_0 {call : Nat → List Value → ab_S → Option Value → ab_S → Prop} {ro : ab_E} {Q : Option Value → ab_S → Prop} (x1 : Int32) (x2 : Int32) (x3 : Int32) (mi : Nat → Nat → Int32) (ml : Nat → Nat → Int64)
    (h : ((x3 = 0) → (vp_in x1 7 ∧ (vp_in x1 7 ∧ (Q none (ab_G (ab_ui mi 37 (x1).toNatClampNeg ((mi 37 (x1).toNatClampNeg) &&& (((1 : Int32) <<< (x2 &&& 31)) ^^^ (-1)))) ml))))) ∧ (¬ (x3 = 0) → (vp_in x1 7 ∧ (vp_in x1 7 ∧ (Q none (ab_G (ab_ui mi 37 (x1).toNatClampNeg ((mi 37 (x1).toNatClampNeg) ||| ((1 : Int32) <<< (x2 &&& 31)))) ml)))))) :
    ab_W call ro 0 0 (ab_lk2 pl_X0_cast) Q (0, [some (.ref 36), some (.int x1), some (.int x2), some (.int x3), none], [], 0, 0, ab_G mi ml) := by
  refine ab_wk 9 (f' := (if x3 = 0 then 26 else 14, [some (.ref 36), some (.int x1), some (.int x2), some (.int x3), some (.int ((1 : Int32) <<< (x2 &&& 31)))], [.int x1, .ref 37], 0, 0, (ab_G mi ml))) rfl ⟨trivial, trivial, trivial, trivial, trivial, trivial, trivial, trivial, trivial, trivial⟩ ?_
  refine ab_wi (fun c => ?_) (fun c => ?_)
  · have h := h.1 c
    obtain ⟨p0, p1, h⟩ := h
    exact ab_wr 10 rfl ⟨trivial, trivial, trivial, p0, trivial, trivial, trivial, trivial, p1, trivial⟩ h
  · have h := h.2 c
    obtain ⟨p0, p1, h⟩ := h
    exact ab_wr 9 rfl ⟨trivial, trivial, trivial, p0, trivial, trivial, trivial, p1, trivial⟩ h
theorem vc_X0_inPlainOrder_0 {call : Nat → List Value → ab_S → Option Value → ab_S → Prop} {ro : ab_E} {Q : Option Value → ab_S → Prop} (x1 : Int32) (x2 : Int32) (mi : Nat → Nat → Int32) (ml : Nat → Nat → Int64)
    (h : ∃ (mi1 : Nat → Nat → Int32) (ml2 : Nat → Nat → Int64), call 4 [.ref 36, .int x1, .int x2] (ab_G mi ml) none (ab_G mi1 ml2) ∧ (ab_W call ro 0 0 (ab_lk2 pl_X0_inPlainOrder) Q (11, [some (.ref 36), some (.int x1), some (.int x2), some (.int 0), some (.int 0)], [], 0, 0, (ab_G mi1 ml2)))) :
    ab_W call ro 0 0 (ab_lk2 pl_X0_inPlainOrder) Q (0, [some (.ref 36), some (.int x1), some (.int x2), none, none], [], 0, 0, ab_G mi ml) := by
  obtain ⟨mi1, ml2, hc, h⟩ := h
  refine ab_wc 4 (c := 4) (as := [.ref 36, .int x1, .int x2]) (pc := 6) (ll := [some (.ref 36), some (.int x1), some (.int x2), none, none]) (st := []) (c1 := 0) (s1 := 0) (g := (ab_G mi ml)) rfl ⟨trivial, trivial, trivial, trivial⟩ hc ?_
  exact ab_wk 4 (f' := (11, [some (.ref 36), some (.int x1), some (.int x2), some (.int 0), some (.int 0)], [], 0, 0, (ab_G mi1 ml2))) rfl ⟨trivial, trivial, trivial, trivial, trivial⟩ h
theorem vc_X0_inPlainOrder_11 {call : Nat → List Value → ab_S → Option Value → ab_S → Prop} {ro : ab_E} {Q : Option Value → ab_S → Prop} (y1 : Int32) (y2 : Int32) (y3 : Int32) (y4 : Int32) (mi : Nat → Nat → Int32) (ml : Nat → Nat → Int64)
    (h : ((y4 < (mi 36 2)) → (∃ (r5 : Int32) (mi3 : Nat → Nat → Int32) (ml4 : Nat → Nat → Int64), call 5 [.ref 36, .int y3, .int ((1 : Int32) <<< (y4 &&& 31))] (ab_G mi ml) (some (.int r5)) (ab_G mi3 ml4) ∧ (ab_W call ro 0 0 (ab_lk2 pl_X0_inPlainOrder) Q (11, [some (.ref 36), some (.int y1), some (.int y2), some (.int r5), some (.int (y4 + 1))], [], 0, 0, (ab_G mi3 ml4))))) ∧ (¬ (y4 < (mi 36 2)) → (Q (some (.int y3)) (ab_G mi ml)))) :
    ab_W call ro 0 0 (ab_lk2 pl_X0_inPlainOrder) Q (11, [some (.ref 36), some (.int y1), some (.int y2), some (.int y3), some (.int y4)], [], 0, 0, ab_G mi ml) := by
  refine ab_wk 4 (f' := (if y4 < (mi 36 2) then 20 else 36, [some (.ref 36), some (.int y1), some (.int y2), some (.int y3), some (.int y4)], [], 0, 0, (ab_G mi ml))) rfl ⟨trivial, trivial, trivial, trivial, trivial⟩ ?_
  refine ab_wi (fun c => ?_) (fun c => ?_)
  · have h := h.1 c
    obtain ⟨r5, mi3, ml4, hc, h⟩ := h
    refine ab_wc 6 (c := 5) (as := [.ref 36, .int y3, .int ((1 : Int32) <<< (y4 &&& 31))]) (pc := 29) (ll := [some (.ref 36), some (.int y1), some (.int y2), some (.int y3), some (.int y4)]) (st := []) (c1 := 0) (s1 := 0) (g := (ab_G mi ml)) rfl ⟨trivial, trivial, trivial, trivial, trivial, trivial⟩ hc ?_
    exact ab_wk 3 (f' := (11, [some (.ref 36), some (.int y1), some (.int y2), some (.int r5), some (.int (y4 + 1))], [], 0, 0, (ab_G mi3 ml4))) rfl ⟨trivial, trivial, trivial, trivial⟩ h
  · have h := h.2 c
    exact ab_wr 2 rfl ⟨trivial, trivial⟩ h
theorem vc_X0_ready_0 {call : Nat → List Value → ab_S → Option Value → ab_S → Prop} {ro : ab_E} {Q : Option Value → ab_S → Prop} (x1 : Int32) (x2 : Int32) (mi : Nat → Nat → Int32) (ml : Nat → Nat → Int64)
    (h : ab_W call ro 0 0 (ab_lk2 pl_X0_ready) Q (23, [some (.ref 36), some (.int x1), some (.int x2), some (.int 0), none, none, none], [], 0, 0, (ab_G (ab_ui (ab_ui mi 36 2 (if 6 < (mi 25 4) then 6 else (mi 25 4))) 36 3 0) ml))) :
    ab_W call ro 0 0 (ab_lk2 pl_X0_ready) Q (0, [some (.ref 36), some (.int x1), some (.int x2), none, none, none, none], [], 0, 0, ab_G mi ml) := by
  exact ab_wk 12 (f' := (23, [some (.ref 36), some (.int x1), some (.int x2), some (.int 0), none, none, none], [], 0, 0, (ab_G (ab_ui (ab_ui mi 36 2 (if 6 < (mi 25 4) then 6 else (mi 25 4))) 36 3 0) ml))) rfl ⟨trivial, trivial, trivial, trivial, trivial, trivial, trivial, trivial, trivial, trivial, trivial, trivial, trivial⟩ h
theorem vc_X0_ready_23 {call : Nat → List Value → ab_S → Option Value → ab_S → Prop} {ro : ab_E} {Q : Option Value → ab_S → Prop} (y1 : Int32) (y2 : Int32) (y3 : Int32) (mi : Nat → Nat → Int32) (ml : Nat → Nat → Int64)
    (h : ((y3 < (mi 36 2)) → (ab_W call ro 0 0 (ab_lk2 pl_X0_ready) Q (37, [some (.ref 36), some (.int y1), some (.int y2), some (.int y3), some (.int 0), some (.int 0), none], [], 0, 0, (ab_G mi ml)))) ∧ (¬ (y3 < (mi 36 2)) → (Q none (ab_G mi ml)))) :
    ab_W call ro 0 0 (ab_lk2 pl_X0_ready) Q (23, [some (.ref 36), some (.int y1), some (.int y2), some (.int y3), none, none, none], [], 0, 0, ab_G mi ml) := by
  refine ab_wk 4 (f' := (if y3 < (mi 36 2) then 31 else 112, [some (.ref 36), some (.int y1), some (.int y2), some (.int y3), none, none, none], [], 0, 0, (ab_G mi ml))) rfl ⟨trivial, trivial, trivial, trivial, trivial⟩ ?_
  refine ab_wi (fun c => ?_) (fun c => ?_)
  · have h := h.1 c
    exact ab_wk 4 (f' := (37, [some (.ref 36), some (.int y1), some (.int y2), some (.int y3), some (.int 0), some (.int 0), none], [], 0, 0, (ab_G mi ml))) rfl ⟨trivial, trivial, trivial, trivial, trivial⟩ h
  · have h := h.2 c
    exact ab_wr 1 rfl trivial h
theorem vc_X0_ready_37 {call : Nat → List Value → ab_S → Option Value → ab_S → Prop} {ro : ab_E} {Q : Option Value → ab_S → Prop} (y1 : Int32) (y2 : Int32) (y3 : Int32) (y4 : Int32) (y5 : Int32) (mi : Nat → Nat → Int32) (ml : Nat → Nat → Int64)
    (h : ((y5 < 7) → (((y5 = y1) → (vp_in y5 7 ∧ (ab_W call ro 0 0 (ab_lk2 pl_X0_ready) Q (37, [some (.ref 36), some (.int y1), some (.int y2), some (.int y3), some (.int (y4 + ((((mi 37 (y5).toNatClampNeg) ^^^ y2) >>> (y3 &&& 31)) &&& 1))), some (.int (y5 + 1)), none], [], 0, 0, (ab_G mi ml))))) ∧ (¬ (y5 = y1) → (vp_in y5 7 ∧ (ab_W call ro 0 0 (ab_lk2 pl_X0_ready) Q (37, [some (.ref 36), some (.int y1), some (.int y2), some (.int y3), some (.int (y4 + (((mi 37 (y5).toNatClampNeg) >>> (y3 &&& 31)) &&& 1))), some (.int (y5 + 1)), none], [], 0, 0, (ab_G mi ml))))))) ∧ (¬ (y5 < 7) → (((y4 < 4) → (ab_W call ro 0 0 (ab_lk2 pl_X0_ready) Q (23, [some (.ref 36), some (.int y1), some (.int y2), some (.int (y3 + 1)), none, none, none], [], 0, 0, (ab_G mi ml)))) ∧ (¬ (y4 < 4) → (ab_W call ro 0 0 (ab_lk2 pl_X0_ready) Q (23, [some (.ref 36), some (.int y1), some (.int y2), some (.int (y3 + 1)), none, none, none], [], 0, 0, (ab_G (ab_ui mi 36 3 ((mi 36 3) ||| ((1 : Int32) <<< (y3 &&& 31)))) ml))))))) :
    ab_W call ro 0 0 (ab_lk2 pl_X0_ready) Q (37, [some (.ref 36), some (.int y1), some (.int y2), some (.int y3), some (.int y4), some (.int y5), none], [], 0, 0, ab_G mi ml) := by
  refine ab_wk 3 (f' := (if y5 < 7 then 44 else 88, [some (.ref 36), some (.int y1), some (.int y2), some (.int y3), some (.int y4), some (.int y5), none], [], 0, 0, (ab_G mi ml))) rfl ⟨trivial, trivial, trivial, trivial⟩ ?_
  refine ab_wi (fun c => ?_) (fun c => ?_)
  · have h := h.1 c
    refine ab_wk 3 (f' := (if y5 = y1 then 50 else 62, [some (.ref 36), some (.int y1), some (.int y2), some (.int y3), some (.int y4), some (.int y5), none], [], 0, 0, (ab_G mi ml))) rfl ⟨trivial, trivial, trivial, trivial⟩ ?_
    refine ab_wi (fun c => ?_) (fun c => ?_)
    · have h := h.1 c
      obtain ⟨p0, h⟩ := h
      exact ab_wk 18 (f' := (37, [some (.ref 36), some (.int y1), some (.int y2), some (.int y3), some (.int (y4 + ((((mi 37 (y5).toNatClampNeg) ^^^ y2) >>> (y3 &&& 31)) &&& 1))), some (.int (y5 + 1)), some (.int ((mi 37 (y5).toNatClampNeg) ^^^ y2))], [], 0, 0, (ab_G mi ml))) rfl ⟨trivial, trivial, trivial, p0, trivial, trivial, trivial, trivial, trivial, trivial, trivial, trivial, trivial, trivial, trivial, trivial, trivial, trivial, trivial⟩ (ab_drop h (ab_lrc _ (ab_lrc _ (ab_lrc _ (ab_lrc _ (ab_lrc _ (ab_lrc _ (ab_lrn _ ab_lr0))))))))
    · have h := h.2 c
      obtain ⟨p0, h⟩ := h
      exact ab_wk 15 (f' := (37, [some (.ref 36), some (.int y1), some (.int y2), some (.int y3), some (.int (y4 + (((mi 37 (y5).toNatClampNeg) >>> (y3 &&& 31)) &&& 1))), some (.int (y5 + 1)), some (.int (mi 37 (y5).toNatClampNeg))], [], 0, 0, (ab_G mi ml))) rfl ⟨trivial, trivial, trivial, p0, trivial, trivial, trivial, trivial, trivial, trivial, trivial, trivial, trivial, trivial, trivial, trivial⟩ (ab_drop h (ab_lrc _ (ab_lrc _ (ab_lrc _ (ab_lrc _ (ab_lrc _ (ab_lrc _ (ab_lrn _ ab_lr0))))))))
  · have h := h.2 c
    refine ab_wk 3 (f' := (if y4 < 4 then 106 else 94, [some (.ref 36), some (.int y1), some (.int y2), some (.int y3), some (.int y4), some (.int y5), none], [], 0, 0, (ab_G mi ml))) rfl ⟨trivial, trivial, trivial, trivial⟩ ?_
    refine ab_wi (fun c => ?_) (fun c => ?_)
    · have h := h.1 c
      exact ab_wk 2 (f' := (23, [some (.ref 36), some (.int y1), some (.int y2), some (.int (y3 + 1)), some (.int y4), some (.int y5), none], [], 0, 0, (ab_G mi ml))) rfl ⟨trivial, trivial, trivial⟩ (ab_drop h (ab_lrc _ (ab_lrc _ (ab_lrc _ (ab_lrc _ (ab_lrn _ (ab_lrn _ (ab_lrc _ ab_lr0))))))))
    · have h := h.2 c
      exact ab_wk 10 (f' := (23, [some (.ref 36), some (.int y1), some (.int y2), some (.int (y3 + 1)), some (.int y4), some (.int y5), none], [], 0, 0, (ab_G (ab_ui mi 36 3 ((mi 36 3) ||| ((1 : Int32) <<< (y3 &&& 31)))) ml))) rfl ⟨trivial, trivial, trivial, trivial, trivial, trivial, trivial, trivial, trivial, trivial, trivial⟩ (ab_drop h (ab_lrc _ (ab_lrc _ (ab_lrc _ (ab_lrc _ (ab_lrn _ (ab_lrn _ (ab_lrc _ ab_lr0))))))))
theorem vc_X0_takenWith_0 {call : Nat → List Value → ab_S → Option Value → ab_S → Prop} {ro : ab_E} {Q : Option Value → ab_S → Prop} (x1 : Int32) (x2 : Int32) (mi : Nat → Nat → Int32) (ml : Nat → Nat → Int64)
    (h : ((((mi 36 3) &&& x2) = 0) → (Q (some (.int x1)) (ab_G mi ml))) ∧ (¬ (((mi 36 3) &&& x2) = 0) → (∃ (r3 : Int32) (mi1 : Nat → Nat → Int32) (ml2 : Nat → Nat → Int64), call 34 [.ref 25, .int (x1 ||| x2)] (ab_G mi ml) (some (.int r3)) (ab_G mi1 ml2) ∧ (((r3 = 0) → (Q (some (.int x1)) (ab_G mi1 ml2))) ∧ (¬ (r3 = 0) → (Q (some (.int (x1 ||| x2))) (ab_G mi1 ml2))))))) :
    ab_W call ro 0 0 (ab_lk2 pl_X0_takenWith) Q (0, [some (.ref 36), some (.int x1), some (.int x2), none], [], 0, 0, ab_G mi ml) := by
  refine ab_wk 5 (f' := (if ((mi 36 3) &&& x2) = 0 then 26 else 9, [some (.ref 36), some (.int x1), some (.int x2), none], [], 0, 0, (ab_G mi ml))) rfl ⟨trivial, trivial, trivial, trivial, trivial, trivial⟩ ?_
  refine ab_wi (fun c => ?_) (fun c => ?_)
  · have h := h.1 c
    refine ab_wk 4 (f' := (if (0 : Int32) = 0 then 38 else 32, [some (.ref 36), some (.int x1), some (.int x2), some (.int 0)], [], 0, 0, (ab_G mi ml))) rfl ⟨trivial, trivial, trivial, trivial, trivial⟩ ?_
    refine ab_wit (c := ((0 : Int32) = 0)) (by decide) ?_
    exact ab_wr 2 rfl ⟨trivial, trivial⟩ h
  · have h := h.2 c
    obtain ⟨r3, mi1, ml2, hc, h⟩ := h
    refine ab_wc 6 (c := 34) (as := [.ref 25, .int (x1 ||| x2)]) (pc := 19) (ll := [some (.ref 36), some (.int x1), some (.int x2), none]) (st := []) (c1 := 0) (s1 := 0) (g := (ab_G mi ml)) rfl ⟨trivial, trivial, trivial, trivial, trivial, trivial⟩ hc ?_
    refine ab_wk 1 (f' := (if r3 = 0 then 26 else 22, [some (.ref 36), some (.int x1), some (.int x2), none], [], 0, 0, (ab_G mi1 ml2))) rfl ⟨trivial, trivial⟩ ?_
    refine ab_wi (fun c => ?_) (fun c => ?_)
    · have h := h.1 c
      refine ab_wk 4 (f' := (if (0 : Int32) = 0 then 38 else 32, [some (.ref 36), some (.int x1), some (.int x2), some (.int 0)], [], 0, 0, (ab_G mi1 ml2))) rfl ⟨trivial, trivial, trivial, trivial, trivial⟩ ?_
      refine ab_wit (c := ((0 : Int32) = 0)) (by decide) ?_
      exact ab_wr 2 rfl ⟨trivial, trivial⟩ h
    · have h := h.2 c
      refine ab_wk 5 (f' := (if (1 : Int32) = 0 then 38 else 32, [some (.ref 36), some (.int x1), some (.int x2), some (.int 1)], [], 0, 0, (ab_G mi1 ml2))) rfl ⟨trivial, trivial, trivial, trivial, trivial, trivial⟩ ?_
      refine ab_wif (c := ((1 : Int32) = 0)) (by decide) ?_
      exact ab_wr 5 rfl ⟨trivial, trivial, trivial, trivial, trivial⟩ h
theorem vc_X0_tryOrders_0 {call : Nat → List Value → ab_S → Option Value → ab_S → Prop} {ro : ab_E} {Q : Option Value → ab_S → Prop} (x1 : Int32) (mi : Nat → Nat → Int32) (ml : Nat → Nat → Int64)
    (h : ∃ (mi1 : Nat → Nat → Int32) (ml2 : Nat → Nat → Int64), call 4 [.ref 36, .int (-1), .int 0] (ab_G mi ml) none (ab_G mi1 ml2) ∧ (∃ (mi3 : Nat → Nat → Int32) (ml4 : Nat → Nat → Int64), call 7 [.ref 36, .int (mi1 36 2), .int 0, .int 0, .int 0] (ab_G (ab_ui (ab_ui (ab_ui (ab_ui (ab_ui (ab_ui mi1 36 7 x1) 36 4 (((1 : Int32) <<< ((mi1 36 2) &&& 31)) - 1)) 36 5 0) 36 8 (-1)) 36 9 6) 36 10 0) (ab_ul ml2 36 6 0)) none (ab_G mi3 ml4) ∧ (Q none (ab_G mi3 ml4)))) :
    ab_W call ro 0 0 (ab_lk2 pl_X0_tryOrders) Q (0, [some (.ref 36), some (.int x1)], [], 0, 0, ab_G mi ml) := by
  obtain ⟨mi1, ml2, hc, h⟩ := h
  refine ab_wc 4 (c := 4) (as := [.ref 36, .int (-1), .int 0]) (pc := 6) (ll := [some (.ref 36), some (.int x1)]) (st := []) (c1 := 0) (s1 := 0) (g := (ab_G mi ml)) rfl ⟨trivial, trivial, trivial, trivial⟩ hc ?_
  obtain ⟨mi3, ml4, hc, h⟩ := h
  refine ab_wc 33 (c := 7) (as := [.ref 36, .int (mi1 36 2), .int 0, .int 0, .int 0]) (pc := 60) (ll := [some (.ref 36), some (.int x1)]) (st := []) (c1 := 0) (s1 := 0) (g := (ab_G (ab_ui (ab_ui (ab_ui (ab_ui (ab_ui (ab_ui mi1 36 7 x1) 36 4 (((1 : Int32) <<< ((mi1 36 2) &&& 31)) - 1)) 36 5 0) 36 8 (-1)) 36 9 6) 36 10 0) (ab_ul ml2 36 6 0))) rfl ⟨trivial, trivial, trivial, trivial, trivial, trivial, trivial, trivial, trivial, trivial, trivial, trivial, trivial, trivial, trivial, trivial, trivial, trivial, trivial, trivial, trivial, trivial, trivial, trivial, trivial, trivial, trivial, trivial, trivial, trivial, trivial, trivial, trivial⟩ hc ?_
  exact ab_wr 1 rfl trivial h
theorem vc_X0_putNext_0 {call : Nat → List Value → ab_S → Option Value → ab_S → Prop} {ro : ab_E} {Q : Option Value → ab_S → Prop} (x1 : Int32) (x2 : Int32) (x3 : Int32) (x4 : Int32) (mi : Nat → Nat → Int32) (ml : Nat → Nat → Int64)
    (h : ((0 < x1) → (ab_W call ro 0 0 (ab_lk2 pl_X0_putNext) Q (15, [some (.ref 36), some (.int x1), some (.int x2), some (.int x3), some (.int x4), some (.int 0), none], [], 0, 0, (ab_G mi ml)))) ∧ (¬ (0 < x1) → (∃ (mi1 : Nat → Nat → Int32) (ml2 : Nat → Nat → Int64), call 8 [.ref 36, .int x3, .int x4] (ab_G mi ml) none (ab_G mi1 ml2) ∧ (Q none (ab_G mi1 ml2))))) :
    ab_W call ro 0 0 (ab_lk2 pl_X0_putNext) Q (0, [some (.ref 36), some (.int x1), some (.int x2), some (.int x3), some (.int x4), none, none], [], 0, 0, ab_G mi ml) := by
  refine ab_wk 2 (f' := (if 0 < x1 then 12 else 4, [some (.ref 36), some (.int x1), some (.int x2), some (.int x3), some (.int x4), none, none], [], 0, 0, (ab_G mi ml))) rfl ⟨trivial, trivial, trivial⟩ ?_
  refine ab_wi (fun c => ?_) (fun c => ?_)
  · have h := h.1 c
    exact ab_wk 2 (f' := (15, [some (.ref 36), some (.int x1), some (.int x2), some (.int x3), some (.int x4), some (.int 0), none], [], 0, 0, (ab_G mi ml))) rfl ⟨trivial, trivial, trivial⟩ h
  · have h := h.2 c
    obtain ⟨mi1, ml2, hc, h⟩ := h
    refine ab_wc 4 (c := 8) (as := [.ref 36, .int x3, .int x4]) (pc := 11) (ll := [some (.ref 36), some (.int x1), some (.int x2), some (.int x3), some (.int x4), none, none]) (st := []) (c1 := 0) (s1 := 0) (g := (ab_G mi ml)) rfl ⟨trivial, trivial, trivial, trivial⟩ hc ?_
    exact ab_wr 1 rfl trivial h
theorem vc_X0_putNext_15 {call : Nat → List Value → ab_S → Option Value → ab_S → Prop} {ro : ab_E} {Q : Option Value → ab_S → Prop} (y1 : Int32) (y2 : Int32) (y3 : Int32) (y4 : Int32) (y5 : Int32) (mi : Nat → Nat → Int32) (ml : Nat → Nat → Int64)
    (h : ((y5 < (mi 36 2)) → ((((y2 &&& ((1 : Int32) <<< (y5 &&& 31))) = 0) → (∃ (r5 : Int32) (mi3 : Nat → Nat → Int32) (ml4 : Nat → Nat → Int64), call 5 [.ref 36, .int y3, .int ((1 : Int32) <<< (y5 &&& 31))] (ab_G mi ml) (some (.int r5)) (ab_G mi3 ml4) ∧ (∃ (mi6 : Nat → Nat → Int32) (ml7 : Nat → Nat → Int64), call 7 [.ref 36, .int (y1 - 1), .int (y2 ||| ((1 : Int32) <<< (y5 &&& 31))), .int r5, .int ((y4 * 8) + y5)] (ab_G mi3 ml4) none (ab_G mi6 ml7) ∧ (ab_W call ro 0 0 (ab_lk2 pl_X0_putNext) Q (15, [some (.ref 36), some (.int y1), some (.int y2), some (.int y3), some (.int y4), some (.int (y5 + 1)), none], [], 0, 0, (ab_G mi6 ml7)))))) ∧ (¬ ((y2 &&& ((1 : Int32) <<< (y5 &&& 31))) = 0) → (ab_W call ro 0 0 (ab_lk2 pl_X0_putNext) Q (15, [some (.ref 36), some (.int y1), some (.int y2), some (.int y3), some (.int y4), some (.int (y5 + 1)), none], [], 0, 0, (ab_G mi ml)))))) ∧ (¬ (y5 < (mi 36 2)) → (Q none (ab_G mi ml)))) :
    ab_W call ro 0 0 (ab_lk2 pl_X0_putNext) Q (15, [some (.ref 36), some (.int y1), some (.int y2), some (.int y3), some (.int y4), some (.int y5), none], [], 0, 0, ab_G mi ml) := by
  refine ab_wk 4 (f' := (if y5 < (mi 36 2) then 24 else 69, [some (.ref 36), some (.int y1), some (.int y2), some (.int y3), some (.int y4), some (.int y5), none], [], 0, 0, (ab_G mi ml))) rfl ⟨trivial, trivial, trivial, trivial, trivial⟩ ?_
  refine ab_wi (fun c => ?_) (fun c => ?_)
  · have h := h.1 c
    refine ab_wk 8 (f' := (if (y2 &&& ((1 : Int32) <<< (y5 &&& 31))) = 0 then 37 else 63, [some (.ref 36), some (.int y1), some (.int y2), some (.int y3), some (.int y4), some (.int y5), some (.int ((1 : Int32) <<< (y5 &&& 31)))], [], 0, 0, (ab_G mi ml))) rfl ⟨trivial, trivial, trivial, trivial, trivial, trivial, trivial, trivial, trivial⟩ ?_
    refine ab_wi (fun c => ?_) (fun c => ?_)
    · have h := h.1 c
      obtain ⟨r5, mi3, ml4, hc, h⟩ := h
      refine ab_wc 11 (c := 5) (as := [.ref 36, .int y3, .int ((1 : Int32) <<< (y5 &&& 31))]) (pc := 52) (ll := [some (.ref 36), some (.int y1), some (.int y2), some (.int y3), some (.int y4), some (.int y5), some (.int ((1 : Int32) <<< (y5 &&& 31)))]) (st := [.int (y2 ||| ((1 : Int32) <<< (y5 &&& 31))), .int (y1 - 1), .ref 36]) (c1 := 0) (s1 := 0) (g := (ab_G mi ml)) rfl ⟨trivial, trivial, trivial, trivial, trivial, trivial, trivial, trivial, trivial, trivial, trivial⟩ hc ?_
      obtain ⟨mi6, ml7, hc, h⟩ := h
      refine ab_wc 6 (c := 7) (as := [.ref 36, .int (y1 - 1), .int (y2 ||| ((1 : Int32) <<< (y5 &&& 31))), .int r5, .int ((y4 * 8) + y5)]) (pc := 63) (ll := [some (.ref 36), some (.int y1), some (.int y2), some (.int y3), some (.int y4), some (.int y5), some (.int ((1 : Int32) <<< (y5 &&& 31)))]) (st := []) (c1 := 0) (s1 := 0) (g := (ab_G mi3 ml4)) rfl ⟨trivial, trivial, trivial, trivial, trivial, trivial⟩ hc ?_
      exact ab_wk 2 (f' := (15, [some (.ref 36), some (.int y1), some (.int y2), some (.int y3), some (.int y4), some (.int (y5 + 1)), some (.int ((1 : Int32) <<< (y5 &&& 31)))], [], 0, 0, (ab_G mi6 ml7))) rfl ⟨trivial, trivial, trivial⟩ (ab_drop h (ab_lrc _ (ab_lrc _ (ab_lrc _ (ab_lrc _ (ab_lrc _ (ab_lrc _ (ab_lrn _ ab_lr0))))))))
    · have h := h.2 c
      exact ab_wk 2 (f' := (15, [some (.ref 36), some (.int y1), some (.int y2), some (.int y3), some (.int y4), some (.int (y5 + 1)), some (.int ((1 : Int32) <<< (y5 &&& 31)))], [], 0, 0, (ab_G mi ml))) rfl ⟨trivial, trivial, trivial⟩ (ab_drop h (ab_lrc _ (ab_lrc _ (ab_lrc _ (ab_lrc _ (ab_lrc _ (ab_lrc _ (ab_lrn _ ab_lr0))))))))
  · have h := h.2 c
    exact ab_wr 1 rfl trivial h
theorem vc_X0_note_0 {call : Nat → List Value → ab_S → Option Value → ab_S → Prop} {ro : ab_E} {Q : Option Value → ab_S → Prop} (x1 : Int32) (x2 : Int32) (mi : Nat → Nat → Int32) (ml : Nat → Nat → Int64)
    (h : ∃ (r3 : Int32) (mi1 : Nat → Nat → Int32) (ml2 : Nat → Nat → Int64), call 242 [.int (x1 &&& (mi 36 7))] (ab_G (ab_ui (ab_ui mi 36 4 ((mi 36 4) &&& x1)) 36 5 ((mi 36 5) ||| x1)) (ab_ul ml 36 6 ((ml 36 6) ||| ((1 : Int64) <<< ((x1).toInt64 &&& 63))))) (some (.int r3)) (ab_G mi1 ml2) ∧ ((((mi1 36 8) < r3) → (Q none (ab_G (ab_ui (ab_ui (ab_ui mi1 36 8 r3) 36 10 x2) 36 9 (if r3 < (mi1 36 9) then r3 else (mi1 36 9))) ml2))) ∧ (¬ ((mi1 36 8) < r3) → (Q none (ab_G (ab_ui mi1 36 9 (if r3 < (mi1 36 9) then r3 else (mi1 36 9))) ml2))))) :
    ab_W call ro 0 0 (ab_lk2 pl_X0_note) Q (0, [some (.ref 36), some (.int x1), some (.int x2), none], [], 0, 0, ab_G mi ml) := by
  obtain ⟨r3, mi1, ml2, hc, h⟩ := h
  refine ab_wc 25 (c := 242) (as := [.int (x1 &&& (mi 36 7))]) (pc := 41) (ll := [some (.ref 36), some (.int x1), some (.int x2), none]) (st := []) (c1 := 0) (s1 := 0) (g := (ab_G (ab_ui (ab_ui mi 36 4 ((mi 36 4) &&& x1)) 36 5 ((mi 36 5) ||| x1)) (ab_ul ml 36 6 ((ml 36 6) ||| ((1 : Int64) <<< ((x1).toInt64 &&& 63)))))) rfl ⟨trivial, trivial, trivial, trivial, trivial, trivial, trivial, trivial, trivial, trivial, trivial, trivial, trivial, trivial, trivial, trivial, trivial, trivial, trivial, trivial, trivial, trivial, trivial, trivial, trivial⟩ hc ?_
  refine ab_wk 5 (f' := (if (mi1 36 8) < r3 then 50 else 60, [some (.ref 36), some (.int x1), some (.int x2), some (.int r3)], [], 0, 0, (ab_G mi1 ml2))) rfl ⟨trivial, trivial, trivial, trivial, trivial, trivial⟩ ?_
  refine ab_wi (fun c => ?_) (fun c => ?_)
  · have h := h.1 c
    exact ab_wr 13 rfl ⟨trivial, trivial, trivial, trivial, trivial, trivial, trivial, trivial, trivial, trivial, trivial, trivial, trivial⟩ h
  · have h := h.2 c
    exact ab_wr 7 rfl ⟨trivial, trivial, trivial, trivial, trivial, trivial, trivial⟩ h
theorem vc_X0_firstGain_0 {call : Nat → List Value → ab_S → Option Value → ab_S → Prop} {ro : ab_E} {Q : Option Value → ab_S → Prop} (x1 : Int32) (mi : Nat → Nat → Int32) (ml : Nat → Nat → Int64)
    (h : ∃ (r3 : Int32) (mi1 : Nat → Nat → Int32) (ml2 : Nat → Nat → Int64), call 3 [.ref 36, .int (-1), .int 0] (ab_G mi ml) (some (.int r3)) (ab_G mi1 ml2) ∧ (vp_in x1 7 ∧ (∃ (r6 : Int32) (mi4 : Nat → Nat → Int32) (ml5 : Nat → Nat → Int64), call 242 [.int (r3 &&& (mi1 37 (x1).toNatClampNeg))] (ab_G mi1 ml2) (some (.int r6)) (ab_G mi4 ml5) ∧ (ab_W call ro 0 0 (ab_lk2 pl_X0_firstGain) Q (25, [some (.ref 36), some (.int x1), some (.int r6), some (.int (mi4 36 2)), some (.int 0), none], [], 0, 0, (ab_G mi4 ml5)))))) :
    ab_W call ro 0 0 (ab_lk2 pl_X0_firstGain) Q (0, [some (.ref 36), some (.int x1), none, none, none, none], [], 0, 0, ab_G mi ml) := by
  obtain ⟨r3, mi1, ml2, hc, h⟩ := h
  refine ab_wc 4 (c := 3) (as := [.ref 36, .int (-1), .int 0]) (pc := 6) (ll := [some (.ref 36), some (.int x1), none, none, none, none]) (st := []) (c1 := 0) (s1 := 0) (g := (ab_G mi ml)) rfl ⟨trivial, trivial, trivial, trivial⟩ hc ?_
  obtain ⟨p0, h⟩ := h
  obtain ⟨r6, mi4, ml5, hc, h⟩ := h
  refine ab_wc 6 (c := 242) (as := [.int (r3 &&& (mi1 37 (x1).toNatClampNeg))]) (pc := 16) (ll := [some (.ref 36), some (.int x1), none, none, none, none]) (st := []) (c1 := 0) (s1 := 0) (g := (ab_G mi1 ml2)) rfl ⟨trivial, trivial, trivial, p0, trivial, trivial⟩ hc ?_
  exact ab_wk 6 (f' := (25, [some (.ref 36), some (.int x1), some (.int r6), some (.int (mi4 36 2)), some (.int 0), none], [], 0, 0, (ab_G mi4 ml5))) rfl ⟨trivial, trivial, trivial, trivial, trivial, trivial, trivial⟩ h
theorem vc_X0_firstGain_25 {call : Nat → List Value → ab_S → Option Value → ab_S → Prop} {ro : ab_E} {Q : Option Value → ab_S → Prop} (y1 : Int32) (y2 : Int32) (y3 : Int32) (y4 : Int32) (mi : Nat → Nat → Int32) (ml : Nat → Nat → Int64)
    (h : ((y4 < y3) → (∃ (r9 : Int32) (mi7 : Nat → Nat → Int32) (ml8 : Nat → Nat → Int64), call 3 [.ref 36, .int y1, .int ((1 : Int32) <<< (y4 &&& 31))] (ab_G mi ml) (some (.int r9)) (ab_G mi7 ml8) ∧ (vp_in y1 7 ∧ (∃ (r12 : Int32) (mi10 : Nat → Nat → Int32) (ml11 : Nat → Nat → Int64), call 242 [.int (r9 &&& (mi7 37 (y1).toNatClampNeg))] (ab_G mi7 ml8) (some (.int r12)) (ab_G mi10 ml11) ∧ (((y2 < r12) → (Q (some (.int y4)) (ab_G mi10 ml11))) ∧ (¬ (y2 < r12) → (ab_W call ro 0 0 (ab_lk2 pl_X0_firstGain) Q (25, [some (.ref 36), some (.int y1), some (.int y2), some (.int y3), some (.int (y4 + 1)), none], [], 0, 0, (ab_G mi10 ml11))))))))) ∧ (¬ (y4 < y3) → (Q (some (.int (-1))) (ab_G mi ml)))) :
    ab_W call ro 0 0 (ab_lk2 pl_X0_firstGain) Q (25, [some (.ref 36), some (.int y1), some (.int y2), some (.int y3), some (.int y4), none], [], 0, 0, ab_G mi ml) := by
  refine ab_wk 3 (f' := (if y4 < y3 then 31 else 67, [some (.ref 36), some (.int y1), some (.int y2), some (.int y3), some (.int y4), none], [], 0, 0, (ab_G mi ml))) rfl ⟨trivial, trivial, trivial, trivial⟩ ?_
  refine ab_wi (fun c => ?_) (fun c => ?_)
  · have h := h.1 c
    obtain ⟨r9, mi7, ml8, hc, h⟩ := h
    refine ab_wc 6 (c := 3) (as := [.ref 36, .int y1, .int ((1 : Int32) <<< (y4 &&& 31))]) (pc := 40) (ll := [some (.ref 36), some (.int y1), some (.int y2), some (.int y3), some (.int y4), none]) (st := []) (c1 := 0) (s1 := 0) (g := (ab_G mi ml)) rfl ⟨trivial, trivial, trivial, trivial, trivial, trivial⟩ hc ?_
    obtain ⟨p0, h⟩ := h
    obtain ⟨r12, mi10, ml11, hc, h⟩ := h
    refine ab_wc 8 (c := 242) (as := [.int (r9 &&& (mi7 37 (y1).toNatClampNeg))]) (pc := 54) (ll := [some (.ref 36), some (.int y1), some (.int y2), some (.int y3), some (.int y4), some (.int r9)]) (st := []) (c1 := 0) (s1 := 0) (g := (ab_G mi7 ml8)) rfl ⟨trivial, trivial, trivial, trivial, trivial, p0, trivial, trivial⟩ hc ?_
    refine ab_wk 2 (f' := (if y2 < r12 then 58 else 61, [some (.ref 36), some (.int y1), some (.int y2), some (.int y3), some (.int y4), some (.int r9)], [], 0, 0, (ab_G mi10 ml11))) rfl ⟨trivial, trivial, trivial⟩ ?_
    refine ab_wi (fun c => ?_) (fun c => ?_)
    · have h := h.1 c
      exact ab_wr 2 rfl ⟨trivial, trivial⟩ h
    · have h := h.2 c
      exact ab_wk 2 (f' := (25, [some (.ref 36), some (.int y1), some (.int y2), some (.int y3), some (.int (y4 + 1)), some (.int r9)], [], 0, 0, (ab_G mi10 ml11))) rfl ⟨trivial, trivial, trivial⟩ (ab_drop h (ab_lrc _ (ab_lrc _ (ab_lrc _ (ab_lrc _ (ab_lrc _ (ab_lrn _ ab_lr0)))))))
  · have h := h.2 c
    exact ab_wr 2 rfl ⟨trivial, trivial⟩ h
