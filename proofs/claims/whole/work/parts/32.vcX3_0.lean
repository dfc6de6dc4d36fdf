theorem vc_X3_pick_0 {call : Nat → List Value → ab_S → Option Value → ab_S → Prop} {ro : ab_E} {Q : Option Value → ab_S → Prop} (x1 : Int32) (x2 : Int32) (mi : Nat → Nat → Int32) (ml : Nat → Nat → Int64)
    (h : ab_W call ro 0 0 (ab_lk2 pl_X3_pick) Q (16, [some (.ref 34), some (.int x1), some (.int x2), some (.int (if 12 < (mi 25 4) then 12 else (mi 25 4))), some (.int 0)], [], 0, 0, (ab_G mi ml))) :
    ab_W call ro 0 0 (ab_lk2 pl_X3_pick) Q (0, [some (.ref 34), some (.int x1), some (.int x2), none, none], [], 0, 0, ab_G mi ml) := by
  exact ab_wk 8 (f' := (16, [some (.ref 34), some (.int x1), some (.int x2), some (.int (if 12 < (mi 25 4) then 12 else (mi 25 4))), some (.int 0)], [], 0, 0, (ab_G mi ml))) rfl ⟨trivial, trivial, trivial, trivial, trivial, trivial, trivial, trivial, trivial⟩ h
theorem vc_X3_pick_16 {call : Nat → List Value → ab_S → Option Value → ab_S → Prop} {ro : ab_E} {Q : Option Value → ab_S → Prop} (y1 : Int32) (y2 : Int32) (y3 : Int32) (y4 : Int32) (mi : Nat → Nat → Int32) (ml : Nat → Nat → Int64)
    (h : ((y4 < y3) → (∃ (r3 : Int32) (mi1 : Nat → Nat → Int32) (ml2 : Nat → Nat → Int64), call 90 [.ref 33, .int y4, .int y1, .int y2] (ab_G mi ml) (some (.int r3)) (ab_G mi1 ml2) ∧ (vp_in y4 12 ∧ (ab_W call ro 0 0 (ab_lk2 pl_X3_pick) Q (16, [some (.ref 34), some (.int y1), some (.int y2), some (.int y3), some (.int (y4 + 1))], [], 0, 0, (ab_G (ab_ui mi1 35 (y4).toNatClampNeg r3) ml2)))))) ∧ (¬ (y4 < y3) → (∃ (mi4 : Nat → Nat → Int32) (ml5 : Nat → Nat → Int64), call 22 [.ref 34, .int (y3 - 1), .int 0, .int 0] (ab_G (ab_ui (ab_ui mi 34 3 (-1)) 34 4 (-1)) ml) none (ab_G mi4 ml5) ∧ (Q (some (.int (mi4 34 3))) (ab_G mi4 ml5))))) :
    ab_W call ro 0 0 (ab_lk2 pl_X3_pick) Q (16, [some (.ref 34), some (.int y1), some (.int y2), some (.int y3), some (.int y4)], [], 0, 0, ab_G mi ml) := by
  refine ab_wk 3 (f' := (if y4 < y3 then 22 else 46, [some (.ref 34), some (.int y1), some (.int y2), some (.int y3), some (.int y4)], [], 0, 0, (ab_G mi ml))) rfl ⟨trivial, trivial, trivial, trivial⟩ ?_
  refine ab_wi (fun c => ?_) (fun c => ?_)
  · have h := h.1 c
    obtain ⟨r3, mi1, ml2, hc, h⟩ := h
    refine ab_wc 9 (c := 90) (as := [.ref 33, .int y4, .int y1, .int y2]) (pc := 39) (ll := [some (.ref 34), some (.int y1), some (.int y2), some (.int y3), some (.int y4)]) (st := [.int y4, .ref 35]) (c1 := 0) (s1 := 0) (g := (ab_G mi ml)) rfl ⟨trivial, trivial, trivial, trivial, trivial, trivial, trivial, trivial, trivial⟩ hc ?_
    obtain ⟨p0, h⟩ := h
    exact ab_wk 3 (f' := (16, [some (.ref 34), some (.int y1), some (.int y2), some (.int y3), some (.int (y4 + 1))], [], 0, 0, (ab_G (ab_ui mi1 35 (y4).toNatClampNeg r3) ml2))) rfl ⟨p0, trivial, trivial, trivial⟩ h
  · have h := h.2 c
    obtain ⟨mi4, ml5, hc, h⟩ := h
    refine ab_wc 13 (c := 22) (as := [.ref 34, .int (y3 - 1), .int 0, .int 0]) (pc := 65) (ll := [some (.ref 34), some (.int y1), some (.int y2), some (.int y3), some (.int y4)]) (st := []) (c1 := 0) (s1 := 0) (g := (ab_G (ab_ui (ab_ui mi 34 3 (-1)) 34 4 (-1)) ml)) rfl ⟨trivial, trivial, trivial, trivial, trivial, trivial, trivial, trivial, trivial, trivial, trivial, trivial, trivial⟩ hc ?_
    exact ab_wr 3 rfl ⟨trivial, trivial, trivial⟩ h
theorem vc_X3_search_0 {call : Nat → List Value → ab_S → Option Value → ab_S → Prop} {ro : ab_E} {Q : Option Value → ab_S → Prop} (x1 : Int32) (x2 : Int32) (x3 : Int32) (mi : Nat → Nat → Int32) (ml : Nat → Nat → Int64)
    (h : ((x1 < 0) → (∃ (r3 : Int32) (mi1 : Nat → Nat → Int32) (ml2 : Nat → Nat → Int64), call 23 [.ref 34, .int x2, .int x3] (ab_G mi ml) (some (.int r3)) (ab_G mi1 ml2) ∧ (((r3 = 0) → (Q none (ab_G mi1 ml2))) ∧ (¬ (r3 = 0) → (∃ (r6 : Int32) (mi4 : Nat → Nat → Int32) (ml5 : Nat → Nat → Int64), call 34 [.ref 25, .int x2] (ab_G mi1 ml2) (some (.int r6)) (ab_G mi4 ml5) ∧ (((r6 = 0) → (Q none (ab_G mi4 ml5))) ∧ (¬ (r6 = 0) → (Q none (ab_G (ab_ui (ab_ui mi4 34 3 x2) 34 4 x3) ml5))))))))) ∧ (¬ (x1 < 0) → (((x1 < 12) → (∃ (mi7 : Nat → Nat → Int32) (ml8 : Nat → Nat → Int64), call 22 [.ref 34, .int (x1 - 1), .int x2, .int x3] (ab_G mi ml) none (ab_G mi7 ml8) ∧ (vp_in x1 12 ∧ (∃ (mi9 : Nat → Nat → Int32) (ml10 : Nat → Nat → Int64), call 22 [.ref 34, .int (x1 - 1), .int (x2 ||| ((1 : Int32) <<< (x1 &&& 31))), .int (x3 + (mi7 35 (x1).toNatClampNeg))] (ab_G mi7 ml8) none (ab_G mi9 ml10) ∧ (Q none (ab_G mi9 ml10)))))) ∧ (¬ (x1 < 12) → (∃ (r13 : Int32) (mi11 : Nat → Nat → Int32) (ml12 : Nat → Nat → Int64), call 23 [.ref 34, .int x2, .int x3] (ab_G mi ml) (some (.int r13)) (ab_G mi11 ml12) ∧ (((r13 = 0) → (Q none (ab_G mi11 ml12))) ∧ (¬ (r13 = 0) → (∃ (r16 : Int32) (mi14 : Nat → Nat → Int32) (ml15 : Nat → Nat → Int64), call 34 [.ref 25, .int x2] (ab_G mi11 ml12) (some (.int r16)) (ab_G mi14 ml15) ∧ (((r16 = 0) → (Q none (ab_G mi14 ml15))) ∧ (¬ (r16 = 0) → (Q none (ab_G (ab_ui (ab_ui mi14 34 3 x2) 34 4 x3) ml15)))))))))))) :
    ab_W call ro 0 0 (ab_lk2 pl_X3_search) Q (0, [some (.ref 34), some (.int x1), some (.int x2), some (.int x3)], [], 0, 0, ab_G mi ml) := by
  refine ab_wk 2 (f' := (if x1 < 0 then 42 else 4, [some (.ref 34), some (.int x1), some (.int x2), some (.int x3)], [], 0, 0, (ab_G mi ml))) rfl ⟨trivial, trivial, trivial⟩ ?_
  refine ab_wi (fun c => ?_) (fun c => ?_)
  · have h := h.1 c
    obtain ⟨r3, mi1, ml2, hc, h⟩ := h
    refine ab_wc 4 (c := 23) (as := [.ref 34, .int x2, .int x3]) (pc := 48) (ll := [some (.ref 34), some (.int x1), some (.int x2), some (.int x3)]) (st := []) (c1 := 0) (s1 := 0) (g := (ab_G mi ml)) rfl ⟨trivial, trivial, trivial, trivial⟩ hc ?_
    refine ab_wk 1 (f' := (if r3 = 0 then 72 else 51, [some (.ref 34), some (.int x1), some (.int x2), some (.int x3)], [], 0, 0, (ab_G mi1 ml2))) rfl ⟨trivial, trivial⟩ ?_
    refine ab_wi (fun c => ?_) (fun c => ?_)
    · have h := h.1 c
      exact ab_wr 1 rfl trivial h
    · have h := h.2 c
      obtain ⟨r6, mi4, ml5, hc, h⟩ := h
      refine ab_wc 4 (c := 34) (as := [.ref 25, .int x2]) (pc := 59) (ll := [some (.ref 34), some (.int x1), some (.int x2), some (.int x3)]) (st := []) (c1 := 0) (s1 := 0) (g := (ab_G mi1 ml2)) rfl ⟨trivial, trivial, trivial, trivial⟩ hc ?_
      refine ab_wk 1 (f' := (if r6 = 0 then 72 else 62, [some (.ref 34), some (.int x1), some (.int x2), some (.int x3)], [], 0, 0, (ab_G mi4 ml5))) rfl ⟨trivial, trivial⟩ ?_
      refine ab_wi (fun c => ?_) (fun c => ?_)
      · have h := h.1 c
        exact ab_wr 1 rfl trivial h
      · have h := h.2 c
        exact ab_wr 7 rfl ⟨trivial, trivial, trivial, trivial, trivial, trivial, trivial⟩ h
  · have h := h.2 c
    refine ab_wk 3 (f' := (if x1 < 12 then 10 else 42, [some (.ref 34), some (.int x1), some (.int x2), some (.int x3)], [], 0, 0, (ab_G mi ml))) rfl ⟨trivial, trivial, trivial, trivial⟩ ?_
    refine ab_wi (fun c => ?_) (fun c => ?_)
    · have h := h.1 c
      obtain ⟨mi7, ml8, hc, h⟩ := h
      refine ab_wc 7 (c := 22) (as := [.ref 34, .int (x1 - 1), .int x2, .int x3]) (pc := 19) (ll := [some (.ref 34), some (.int x1), some (.int x2), some (.int x3)]) (st := []) (c1 := 0) (s1 := 0) (g := (ab_G mi ml)) rfl ⟨trivial, trivial, trivial, trivial, trivial, trivial, trivial⟩ hc ?_
      obtain ⟨p0, h⟩ := h
      obtain ⟨mi9, ml10, hc, h⟩ := h
      refine ab_wc 16 (c := 22) (as := [.ref 34, .int (x1 - 1), .int (x2 ||| ((1 : Int32) <<< (x1 &&& 31))), .int (x3 + (mi7 35 (x1).toNatClampNeg))]) (pc := 39) (ll := [some (.ref 34), some (.int x1), some (.int x2), some (.int x3)]) (st := []) (c1 := 0) (s1 := 0) (g := (ab_G mi7 ml8)) rfl ⟨trivial, trivial, trivial, trivial, trivial, trivial, trivial, trivial, trivial, trivial, trivial, trivial, trivial, p0, trivial, trivial⟩ hc ?_
      exact ab_wr 2 rfl ⟨trivial, trivial⟩ h
    · have h := h.2 c
      obtain ⟨r13, mi11, ml12, hc, h⟩ := h
      refine ab_wc 4 (c := 23) (as := [.ref 34, .int x2, .int x3]) (pc := 48) (ll := [some (.ref 34), some (.int x1), some (.int x2), some (.int x3)]) (st := []) (c1 := 0) (s1 := 0) (g := (ab_G mi ml)) rfl ⟨trivial, trivial, trivial, trivial⟩ hc ?_
      refine ab_wk 1 (f' := (if r13 = 0 then 72 else 51, [some (.ref 34), some (.int x1), some (.int x2), some (.int x3)], [], 0, 0, (ab_G mi11 ml12))) rfl ⟨trivial, trivial⟩ ?_
      refine ab_wi (fun c => ?_) (fun c => ?_)
      · have h := h.1 c
        exact ab_wr 1 rfl trivial h
      · have h := h.2 c
        obtain ⟨r16, mi14, ml15, hc, h⟩ := h
        refine ab_wc 4 (c := 34) (as := [.ref 25, .int x2]) (pc := 59) (ll := [some (.ref 34), some (.int x1), some (.int x2), some (.int x3)]) (st := []) (c1 := 0) (s1 := 0) (g := (ab_G mi11 ml12)) rfl ⟨trivial, trivial, trivial, trivial⟩ hc ?_
        refine ab_wk 1 (f' := (if r16 = 0 then 72 else 62, [some (.ref 34), some (.int x1), some (.int x2), some (.int x3)], [], 0, 0, (ab_G mi14 ml15))) rfl ⟨trivial, trivial⟩ ?_
        refine ab_wi (fun c => ?_) (fun c => ?_)
        · have h := h.1 c
          exact ab_wr 1 rfl trivial h
        · have h := h.2 c
          exact ab_wr 7 rfl ⟨trivial, trivial, trivial, trivial, trivial, trivial, trivial⟩ h
theorem vc_X3_isBetter_0 {call : Nat → List Value → ab_S → Option Value → ab_S → Prop} {ro : ab_E} {Q : Option Value → ab_S → Prop} (x1 : Int32) (x2 : Int32) (mi : Nat → Nat → Int32) (ml : Nat → Nat → Int64)
    (h : (((mi 34 4) < x2) → (Q (some (.int 1)) (ab_G mi ml))) ∧ (¬ ((mi 34 4) < x2) → (((x2 = (mi 34 4)) → (∃ (r3 : Int32) (mi1 : Nat → Nat → Int32) (ml2 : Nat → Nat → Int64), call 242 [.int x1] (ab_G mi ml) (some (.int r3)) (ab_G mi1 ml2) ∧ (∃ (r6 : Int32) (mi4 : Nat → Nat → Int32) (ml5 : Nat → Nat → Int64), call 242 [.int (mi1 34 3)] (ab_G mi1 ml2) (some (.int r6)) (ab_G mi4 ml5) ∧ (((r3 < r6) → (Q (some (.int 1)) (ab_G mi4 ml5))) ∧ (¬ (r3 < r6) → (Q (some (.int 0)) (ab_G mi4 ml5))))))) ∧ (¬ (x2 = (mi 34 4)) → (Q (some (.int 0)) (ab_G mi ml)))))) :
    ab_W call ro 0 0 (ab_lk2 pl_X3_isBetter) Q (0, [some (.ref 34), some (.int x1), some (.int x2)], [], 0, 0, ab_G mi ml) := by
  refine ab_wk 4 (f' := (if (mi 34 4) < x2 then 30 else 8, [some (.ref 34), some (.int x1), some (.int x2)], [], 0, 0, (ab_G mi ml))) rfl ⟨trivial, trivial, trivial, trivial, trivial⟩ ?_
  refine ab_wi (fun c => ?_) (fun c => ?_)
  · have h := h.1 c
    exact ab_wr 3 rfl ⟨trivial, trivial, (Or.inr rfl)⟩ h
  · have h := h.2 c
    refine ab_wk 4 (f' := (if x2 = (mi 34 4) then 16 else 34, [some (.ref 34), some (.int x1), some (.int x2)], [], 0, 0, (ab_G mi ml))) rfl ⟨trivial, trivial, trivial, trivial, trivial⟩ ?_
    refine ab_wi (fun c => ?_) (fun c => ?_)
    · have h := h.1 c
      obtain ⟨r3, mi1, ml2, hc, h⟩ := h
      refine ab_wc 2 (c := 242) (as := [.int x1]) (pc := 20) (ll := [some (.ref 34), some (.int x1), some (.int x2)]) (st := []) (c1 := 0) (s1 := 0) (g := (ab_G mi ml)) rfl ⟨trivial, trivial⟩ hc ?_
      obtain ⟨r6, mi4, ml5, hc, h⟩ := h
      refine ab_wc 3 (c := 242) (as := [.int (mi1 34 3)]) (pc := 27) (ll := [some (.ref 34), some (.int x1), some (.int x2)]) (st := [.int r3]) (c1 := 0) (s1 := 0) (g := (ab_G mi1 ml2)) rfl ⟨trivial, trivial, trivial⟩ hc ?_
      refine ab_wk 1 (f' := (if r3 < r6 then 30 else 34, [some (.ref 34), some (.int x1), some (.int x2)], [], 0, 0, (ab_G mi4 ml5))) rfl ⟨trivial, trivial⟩ ?_
      refine ab_wi (fun c => ?_) (fun c => ?_)
      · have h := h.1 c
        exact ab_wr 3 rfl ⟨trivial, trivial, (Or.inr rfl)⟩ h
      · have h := h.2 c
        exact ab_wr 2 rfl ⟨trivial, (Or.inl rfl)⟩ h
    · have h := h.2 c
      exact ab_wr 2 rfl ⟨trivial, (Or.inl rfl)⟩ h
