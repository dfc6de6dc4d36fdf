theorem vc_X12_takeNumber_0 {call : Nat → List Value → ab_S → Option Value → ab_S → Prop} {ro : ab_E} {Q : Option Value → ab_S → Prop} (x1 : Int32) (mi : Nat → Nat → Int32) (ml : Nat → Nat → Int64)
    (h : (((mi 40 8) = 0) → (vp_in (mi 40 7) 1002 ∧ ((((mi 42 ((mi 40 7)).toNatClampNeg) = 2) → ((((mi 40 8) = 0) → (vp_in (mi 40 7) 1002 ∧ (((0 < (lg_cmp (ml 44 ((mi 40 7)).toNatClampNeg) (x1 : Int32).toInt64)) → (∃ (mi1 : Nat → Nat → Int32) (ml2 : Nat → Nat → Int64), call 153 [.ref 40, .int 4] (ab_G mi ml) none (ab_G mi1 ml2) ∧ (((0 < (mi1 40 8)) → (Q (some (.int 0)) (ab_G mi1 ml2))) ∧ (¬ (0 < (mi1 40 8)) → (vp_in (((mi1 40 7) + 1) - 1) 1002 ∧ (Q (some (.int ((ml2 44 ((((mi1 40 7) + 1) - 1)).toNatClampNeg)).toInt32)) (ab_G (ab_ui mi1 40 7 ((mi1 40 7) + 1)) ml2))))))) ∧ (¬ (0 < (lg_cmp (ml 44 ((mi 40 7)).toNatClampNeg) (x1 : Int32).toInt64)) → (((0 < (mi 40 8)) → (Q (some (.int 0)) (ab_G mi ml))) ∧ (¬ (0 < (mi 40 8)) → (vp_in (((mi 40 7) + 1) - 1) 1002 ∧ (Q (some (.int ((ml 44 ((((mi 40 7) + 1) - 1)).toNatClampNeg)).toInt32)) (ab_G (ab_ui mi 40 7 ((mi 40 7) + 1)) ml))))))))) ∧ (¬ ((mi 40 8) = 0) → (((0 < (mi 40 8)) → (Q (some (.int 0)) (ab_G mi ml))) ∧ (¬ (0 < (mi 40 8)) → (vp_in (((mi 40 7) + 1) - 1) 1002 ∧ (Q (some (.int ((ml 44 ((((mi 40 7) + 1) - 1)).toNatClampNeg)).toInt32)) (ab_G (ab_ui mi 40 7 ((mi 40 7) + 1)) ml)))))))) ∧ (¬ ((mi 42 ((mi 40 7)).toNatClampNeg) = 2) → (∃ (mi3 : Nat → Nat → Int32) (ml4 : Nat → Nat → Int64), call 153 [.ref 40, .int 1] (ab_G mi ml) none (ab_G mi3 ml4) ∧ (((0 < (mi3 40 8)) → (Q (some (.int 0)) (ab_G mi3 ml4))) ∧ (¬ (0 < (mi3 40 8)) → (vp_in (((mi3 40 7) + 1) - 1) 1002 ∧ (Q (some (.int ((ml4 44 ((((mi3 40 7) + 1) - 1)).toNatClampNeg)).toInt32)) (ab_G (ab_ui mi3 40 7 ((mi3 40 7) + 1)) ml4)))))))))) ∧ (¬ ((mi 40 8) = 0) → ((((mi 40 8) = 0) → (vp_in (mi 40 7) 1002 ∧ (((0 < (lg_cmp (ml 44 ((mi 40 7)).toNatClampNeg) (x1 : Int32).toInt64)) → (∃ (mi5 : Nat → Nat → Int32) (ml6 : Nat → Nat → Int64), call 153 [.ref 40, .int 4] (ab_G mi ml) none (ab_G mi5 ml6) ∧ (((0 < (mi5 40 8)) → (Q (some (.int 0)) (ab_G mi5 ml6))) ∧ (¬ (0 < (mi5 40 8)) → (vp_in (((mi5 40 7) + 1) - 1) 1002 ∧ (Q (some (.int ((ml6 44 ((((mi5 40 7) + 1) - 1)).toNatClampNeg)).toInt32)) (ab_G (ab_ui mi5 40 7 ((mi5 40 7) + 1)) ml6))))))) ∧ (¬ (0 < (lg_cmp (ml 44 ((mi 40 7)).toNatClampNeg) (x1 : Int32).toInt64)) → (((0 < (mi 40 8)) → (Q (some (.int 0)) (ab_G mi ml))) ∧ (¬ (0 < (mi 40 8)) → (vp_in (((mi 40 7) + 1) - 1) 1002 ∧ (Q (some (.int ((ml 44 ((((mi 40 7) + 1) - 1)).toNatClampNeg)).toInt32)) (ab_G (ab_ui mi 40 7 ((mi 40 7) + 1)) ml))))))))) ∧ (¬ ((mi 40 8) = 0) → (((0 < (mi 40 8)) → (Q (some (.int 0)) (ab_G mi ml))) ∧ (¬ (0 < (mi 40 8)) → (vp_in (((mi 40 7) + 1) - 1) 1002 ∧ (Q (some (.int ((ml 44 ((((mi 40 7) + 1) - 1)).toNatClampNeg)).toInt32)) (ab_G (ab_ui mi 40 7 ((mi 40 7) + 1)) ml))))))))) :
    ab_W call ro 0 0 (ab_lk2 pl_X12_takeNumber) Q (0, [some (.ref 40), some (.int x1)], [], 0, 0, ab_G mi ml) := by
  refine ab_wk 3 (f' := (if (mi 40 8) = 0 then 7 else 28, [some (.ref 40), some (.int x1)], [], 0, 0, (ab_G mi ml))) rfl ⟨trivial, trivial, trivial, trivial⟩ ?_
  refine ab_wi (fun c => ?_) (fun c => ?_)
  · have h := h.1 c
    obtain ⟨p0, h⟩ := h
    refine ab_wk 7 (f' := (if (mi 42 ((mi 40 7)).toNatClampNeg) = 2 then 28 else 20, [some (.ref 40), some (.int x1)], [], 0, 0, (ab_G mi ml))) rfl ⟨trivial, trivial, trivial, trivial, p0, trivial, trivial, trivial⟩ ?_
    refine ab_wi (fun c => ?_) (fun c => ?_)
    · have h := h.1 c
      refine ab_wk 3 (f' := (if (mi 40 8) = 0 then 35 else 55, [some (.ref 40), some (.int x1)], [], 0, 0, (ab_G mi ml))) rfl ⟨trivial, trivial, trivial, trivial⟩ ?_
      refine ab_wi (fun c => ?_) (fun c => ?_)
      · have h := h.1 c
        obtain ⟨p0, h⟩ := h
        refine ab_wk 9 (f' := (if 0 < (lg_cmp (ml 44 ((mi 40 7)).toNatClampNeg) (x1 : Int32).toInt64) then 50 else 55, [some (.ref 40), some (.int x1)], [], 0, 0, (ab_G mi ml))) rfl ⟨trivial, trivial, trivial, trivial, p0, trivial, trivial, trivial, trivial, trivial⟩ ?_
        refine ab_wi (fun c => ?_) (fun c => ?_)
        · have h := h.1 c
          obtain ⟨mi1, ml2, hc, h⟩ := h
          refine ab_wc 3 (c := 153) (as := [.ref 40, .int 4]) (pc := 55) (ll := [some (.ref 40), some (.int x1)]) (st := []) (c1 := 0) (s1 := 0) (g := (ab_G mi ml)) rfl ⟨trivial, trivial, trivial⟩ hc ?_
          refine ab_wk 3 (f' := (if 0 < (mi1 40 8) then 62 else 64, [some (.ref 40), some (.int x1)], [], 0, 0, (ab_G mi1 ml2))) rfl ⟨trivial, trivial, trivial, trivial⟩ ?_
          refine ab_wi (fun c => ?_) (fun c => ?_)
          · have h := h.1 c
            exact ab_wr 2 rfl ⟨trivial, trivial⟩ h
          · have h := h.2 c
            obtain ⟨p0, h⟩ := h
            exact ab_wr 15 rfl ⟨trivial, trivial, trivial, trivial, trivial, trivial, trivial, trivial, trivial, trivial, trivial, trivial, p0, trivial, trivial⟩ h
        · have h := h.2 c
          refine ab_wk 3 (f' := (if 0 < (mi 40 8) then 62 else 64, [some (.ref 40), some (.int x1)], [], 0, 0, (ab_G mi ml))) rfl ⟨trivial, trivial, trivial, trivial⟩ ?_
          refine ab_wi (fun c => ?_) (fun c => ?_)
          · have h := h.1 c
            exact ab_wr 2 rfl ⟨trivial, trivial⟩ h
          · have h := h.2 c
            obtain ⟨p0, h⟩ := h
            exact ab_wr 15 rfl ⟨trivial, trivial, trivial, trivial, trivial, trivial, trivial, trivial, trivial, trivial, trivial, trivial, p0, trivial, trivial⟩ h
      · have h := h.2 c
        refine ab_wk 3 (f' := (if 0 < (mi 40 8) then 62 else 64, [some (.ref 40), some (.int x1)], [], 0, 0, (ab_G mi ml))) rfl ⟨trivial, trivial, trivial, trivial⟩ ?_
        refine ab_wi (fun c => ?_) (fun c => ?_)
        · have h := h.1 c
          exact ab_wr 2 rfl ⟨trivial, trivial⟩ h
        · have h := h.2 c
          obtain ⟨p0, h⟩ := h
          exact ab_wr 15 rfl ⟨trivial, trivial, trivial, trivial, trivial, trivial, trivial, trivial, trivial, trivial, trivial, trivial, p0, trivial, trivial⟩ h
    · have h := h.2 c
      obtain ⟨mi3, ml4, hc, h⟩ := h
      refine ab_wc 3 (c := 153) (as := [.ref 40, .int 1]) (pc := 25) (ll := [some (.ref 40), some (.int x1)]) (st := []) (c1 := 0) (s1 := 0) (g := (ab_G mi ml)) rfl ⟨trivial, trivial, trivial⟩ hc ?_
      refine ab_wk 4 (f' := (if 0 < (mi3 40 8) then 62 else 64, [some (.ref 40), some (.int x1)], [], 0, 0, (ab_G mi3 ml4))) rfl ⟨trivial, trivial, trivial, trivial, trivial⟩ ?_
      refine ab_wi (fun c => ?_) (fun c => ?_)
      · have h := h.1 c
        exact ab_wr 2 rfl ⟨trivial, trivial⟩ h
      · have h := h.2 c
        obtain ⟨p0, h⟩ := h
        exact ab_wr 15 rfl ⟨trivial, trivial, trivial, trivial, trivial, trivial, trivial, trivial, trivial, trivial, trivial, trivial, p0, trivial, trivial⟩ h
  · have h := h.2 c
    refine ab_wk 3 (f' := (if (mi 40 8) = 0 then 35 else 55, [some (.ref 40), some (.int x1)], [], 0, 0, (ab_G mi ml))) rfl ⟨trivial, trivial, trivial, trivial⟩ ?_
    refine ab_wi (fun c => ?_) (fun c => ?_)
    · have h := h.1 c
      obtain ⟨p0, h⟩ := h
      refine ab_wk 9 (f' := (if 0 < (lg_cmp (ml 44 ((mi 40 7)).toNatClampNeg) (x1 : Int32).toInt64) then 50 else 55, [some (.ref 40), some (.int x1)], [], 0, 0, (ab_G mi ml))) rfl ⟨trivial, trivial, trivial, trivial, p0, trivial, trivial, trivial, trivial, trivial⟩ ?_
      refine ab_wi (fun c => ?_) (fun c => ?_)
      · have h := h.1 c
        obtain ⟨mi5, ml6, hc, h⟩ := h
        refine ab_wc 3 (c := 153) (as := [.ref 40, .int 4]) (pc := 55) (ll := [some (.ref 40), some (.int x1)]) (st := []) (c1 := 0) (s1 := 0) (g := (ab_G mi ml)) rfl ⟨trivial, trivial, trivial⟩ hc ?_
        refine ab_wk 3 (f' := (if 0 < (mi5 40 8) then 62 else 64, [some (.ref 40), some (.int x1)], [], 0, 0, (ab_G mi5 ml6))) rfl ⟨trivial, trivial, trivial, trivial⟩ ?_
        refine ab_wi (fun c => ?_) (fun c => ?_)
        · have h := h.1 c
          exact ab_wr 2 rfl ⟨trivial, trivial⟩ h
        · have h := h.2 c
          obtain ⟨p0, h⟩ := h
          exact ab_wr 15 rfl ⟨trivial, trivial, trivial, trivial, trivial, trivial, trivial, trivial, trivial, trivial, trivial, trivial, p0, trivial, trivial⟩ h
      · have h := h.2 c
        refine ab_wk 3 (f' := (if 0 < (mi 40 8) then 62 else 64, [some (.ref 40), some (.int x1)], [], 0, 0, (ab_G mi ml))) rfl ⟨trivial, trivial, trivial, trivial⟩ ?_
        refine ab_wi (fun c => ?_) (fun c => ?_)
        · have h := h.1 c
          exact ab_wr 2 rfl ⟨trivial, trivial⟩ h
        · have h := h.2 c
          obtain ⟨p0, h⟩ := h
          exact ab_wr 15 rfl ⟨trivial, trivial, trivial, trivial, trivial, trivial, trivial, trivial, trivial, trivial, trivial, trivial, p0, trivial, trivial⟩ h
    · have h := h.2 c
      refine ab_wk 3 (f' := (if 0 < (mi 40 8) then 62 else 64, [some (.ref 40), some (.int x1)], [], 0, 0, (ab_G mi ml))) rfl ⟨trivial, trivial, trivial, trivial⟩ ?_
      refine ab_wi (fun c => ?_) (fun c => ?_)
      · have h := h.1 c
        exact ab_wr 2 rfl ⟨trivial, trivial⟩ h
      · have h := h.2 c
        obtain ⟨p0, h⟩ := h
        exact ab_wr 15 rfl ⟨trivial, trivial, trivial, trivial, trivial, trivial, trivial, trivial, trivial, trivial, trivial, trivial, p0, trivial, trivial⟩ h
theorem vc_X12_readCount_0 {call : Nat → List Value → ab_S → Option Value → ab_S → Prop} {ro : ab_E} {Q : Option Value → ab_S → Prop}  (mi : Nat → Nat → Int32) (ml : Nat → Nat → Int64)
    (h : ∃ (r3 : Int32) (mi1 : Nat → Nat → Int32) (ml2 : Nat → Nat → Int64), call 155 [.ref 40, .int 8] (ab_G mi ml) (some (.int r3)) (ab_G mi1 ml2) ∧ (∃ (r6 : Int32) (mi4 : Nat → Nat → Int32) (ml5 : Nat → Nat → Int64), call 167 [.ref 40, .int 7] (ab_G (ab_ui mi1 40 7 ((mi1 40 7) + 1)) ml2) (some (.int r6)) (ab_G mi4 ml5) ∧ (∃ (mi7 : Nat → Nat → Int32) (ml8 : Nat → Nat → Int64), call 159 [.ref 40, .int 7] (ab_G mi4 ml5) none (ab_G mi7 ml8) ∧ (∃ (mi9 : Nat → Nat → Int32) (ml10 : Nat → Nat → Int64), call 156 [.ref 40, .int 40] (ab_G mi7 ml8) none (ab_G mi9 ml10) ∧ ((((mi9 40 8) = 0) → (∃ (r13 : Int32) (mi11 : Nat → Nat → Int32) (ml12 : Nat → Nat → Int64), call 165 [.ref 40] (ab_G mi9 ml10) (some (.int r13)) (ab_G mi11 ml12) ∧ (((r13 < 0) → (∃ (mi14 : Nat → Nat → Int32) (ml15 : Nat → Nat → Int64), call 153 [.ref 40, .int 1] (ab_G mi11 ml12) none (ab_G mi14 ml15) ∧ (ab_W call ro 0 0 (ab_lk2 pl_X12_readCount) Q (57, [some (.ref 40), some (.int r3), some (.int r6), some (.int 0), none], [], 0, 0, (ab_G mi14 ml15))))) ∧ (¬ (r13 < 0) → (ab_W call ro 0 0 (ab_lk2 pl_X12_readCount) Q (57, [some (.ref 40), some (.int r3), some (.int r6), some (.int 0), none], [], 0, 0, (ab_G mi11 ml12))))))) ∧ (¬ ((mi9 40 8) = 0) → (ab_W call ro 0 0 (ab_lk2 pl_X12_readCount) Q (57, [some (.ref 40), some (.int r3), some (.int r6), some (.int 0), none], [], 0, 0, (ab_G mi9 ml10))))))))) :
    ab_W call ro 0 0 (ab_lk2 pl_X12_readCount) Q (0, [some (.ref 40), none, none, none, none], [], 0, 0, ab_G mi ml) := by
  obtain ⟨r3, mi1, ml2, hc, h⟩ := h
  refine ab_wc 3 (c := 155) (as := [.ref 40, .int 8]) (pc := 6) (ll := [some (.ref 40), none, none, none, none]) (st := []) (c1 := 0) (s1 := 0) (g := (ab_G mi ml)) rfl ⟨trivial, trivial, trivial⟩ hc ?_
  obtain ⟨r6, mi4, ml5, hc, h⟩ := h
  refine ab_wc 10 (c := 167) (as := [.ref 40, .int 7]) (pc := 23) (ll := [some (.ref 40), some (.int r3), none, none, none]) (st := []) (c1 := 0) (s1 := 0) (g := (ab_G (ab_ui mi1 40 7 ((mi1 40 7) + 1)) ml2)) rfl ⟨trivial, trivial, trivial, trivial, trivial, trivial, trivial, trivial, trivial, trivial⟩ hc ?_
  obtain ⟨mi7, ml8, hc, h⟩ := h
  refine ab_wc 4 (c := 159) (as := [.ref 40, .int 7]) (pc := 30) (ll := [some (.ref 40), some (.int r3), some (.int r6), none, none]) (st := []) (c1 := 0) (s1 := 0) (g := (ab_G mi4 ml5)) rfl ⟨trivial, trivial, trivial, trivial⟩ hc ?_
  obtain ⟨mi9, ml10, hc, h⟩ := h
  refine ab_wc 3 (c := 156) (as := [.ref 40, .int 40]) (pc := 36) (ll := [some (.ref 40), some (.int r3), some (.int r6), none, none]) (st := []) (c1 := 0) (s1 := 0) (g := (ab_G mi7 ml8)) rfl ⟨trivial, trivial, trivial⟩ hc ?_
  refine ab_wk 5 (f' := (if (mi9 40 8) = 0 then 45 else 57, [some (.ref 40), some (.int r3), some (.int r6), some (.int 0), none], [], 0, 0, (ab_G mi9 ml10))) rfl ⟨trivial, trivial, trivial, trivial, trivial, trivial⟩ ?_
  refine ab_wi (fun c => ?_) (fun c => ?_)
  · have h := h.1 c
    obtain ⟨r13, mi11, ml12, hc, h⟩ := h
    refine ab_wc 2 (c := 165) (as := [.ref 40]) (pc := 49) (ll := [some (.ref 40), some (.int r3), some (.int r6), some (.int 0), none]) (st := []) (c1 := 0) (s1 := 0) (g := (ab_G mi9 ml10)) rfl ⟨trivial, trivial⟩ hc ?_
    refine ab_wk 1 (f' := (if r13 < 0 then 52 else 57, [some (.ref 40), some (.int r3), some (.int r6), some (.int 0), none], [], 0, 0, (ab_G mi11 ml12))) rfl ⟨trivial, trivial⟩ ?_
    refine ab_wi (fun c => ?_) (fun c => ?_)
    · have h := h.1 c
      obtain ⟨mi14, ml15, hc, h⟩ := h
      refine ab_wc 3 (c := 153) (as := [.ref 40, .int 1]) (pc := 57) (ll := [some (.ref 40), some (.int r3), some (.int r6), some (.int 0), none]) (st := []) (c1 := 0) (s1 := 0) (g := (ab_G mi11 ml12)) rfl ⟨trivial, trivial, trivial⟩ hc ?_
      exact h
    · have h := h.2 c
      exact h
  · have h := h.2 c
    exact h
theorem vc_X12_readCount_57 {call : Nat → List Value → ab_S → Option Value → ab_S → Prop} {ro : ab_E} {Q : Option Value → ab_S → Prop} (y1 : Int32) (y2 : Int32) (y3 : Int32) (mi : Nat → Nat → Int32) (ml : Nat → Nat → Int64)
    (h : (((mi 40 8) = 0) → (∃ (r18 : Int32) (mi16 : Nat → Nat → Int32) (ml17 : Nat → Nat → Int64), call 165 [.ref 40] (ab_G mi ml) (some (.int r18)) (ab_G mi16 ml17) ∧ (((r18 < 0) → (∃ (mi19 : Nat → Nat → Int32) (ml20 : Nat → Nat → Int64), call 156 [.ref 40, .int 41] (ab_G mi16 ml17) none (ab_G mi19 ml20) ∧ (∃ (mi21 : Nat → Nat → Int32) (ml22 : Nat → Nat → Int64), call 162 [.ref 40, .int y3, .int y2, .int y1] (ab_G mi19 ml20) none (ab_G mi21 ml22) ∧ (Q none (ab_G mi21 ml22))))) ∧ (¬ (r18 < 0) → (∃ (r25 : Int32) (mi23 : Nat → Nat → Int32) (ml24 : Nat → Nat → Int64), call 165 [.ref 40] (ab_G mi16 ml17) (some (.int r25)) (ab_G mi23 ml24) ∧ (((((y3 >>> (r25 &&& 31)) &&& 1) = 1) → (∃ (mi26 : Nat → Nat → Int32) (ml27 : Nat → Nat → Int64), call 153 [.ref 40, .int 3] (ab_G mi23 ml24) none (ab_G mi26 ml27) ∧ (ab_W call ro 0 0 (ab_lk2 pl_X12_readCount) Q (57, [some (.ref 40), some (.int y1), some (.int y2), some (.int y3), none], [], 0, 0, (ab_G mi26 ml27))))) ∧ (¬ (((y3 >>> (r25 &&& 31)) &&& 1) = 1) → (ab_W call ro 0 0 (ab_lk2 pl_X12_readCount) Q (57, [some (.ref 40), some (.int y1), some (.int y2), some (.int (y3 ||| ((1 : Int32) <<< (r25 &&& 31)))), none], [], 0, 0, (ab_G (ab_ui mi23 40 7 ((mi23 40 7) + 1)) ml24)))))))))) ∧ (¬ ((mi 40 8) = 0) → (∃ (mi28 : Nat → Nat → Int32) (ml29 : Nat → Nat → Int64), call 156 [.ref 40, .int 41] (ab_G mi ml) none (ab_G mi28 ml29) ∧ (∃ (mi30 : Nat → Nat → Int32) (ml31 : Nat → Nat → Int64), call 162 [.ref 40, .int y3, .int y2, .int y1] (ab_G mi28 ml29) none (ab_G mi30 ml31) ∧ (Q none (ab_G mi30 ml31)))))) :
    ab_W call ro 0 0 (ab_lk2 pl_X12_readCount) Q (57, [some (.ref 40), some (.int y1), some (.int y2), some (.int y3), none], [], 0, 0, ab_G mi ml) := by
  refine ab_wk 3 (f' := (if (mi 40 8) = 0 then 64 else 115, [some (.ref 40), some (.int y1), some (.int y2), some (.int y3), none], [], 0, 0, (ab_G mi ml))) rfl ⟨trivial, trivial, trivial, trivial⟩ ?_
  refine ab_wi (fun c => ?_) (fun c => ?_)
  · have h := h.1 c
    obtain ⟨r18, mi16, ml17, hc, h⟩ := h
    refine ab_wc 2 (c := 165) (as := [.ref 40]) (pc := 68) (ll := [some (.ref 40), some (.int y1), some (.int y2), some (.int y3), none]) (st := []) (c1 := 0) (s1 := 0) (g := (ab_G mi ml)) rfl ⟨trivial, trivial⟩ hc ?_
    refine ab_wk 1 (f' := (if r18 < 0 then 115 else 71, [some (.ref 40), some (.int y1), some (.int y2), some (.int y3), none], [], 0, 0, (ab_G mi16 ml17))) rfl ⟨trivial, trivial⟩ ?_
    refine ab_wi (fun c => ?_) (fun c => ?_)
    · have h := h.1 c
      obtain ⟨mi19, ml20, hc, h⟩ := h
      refine ab_wc 3 (c := 156) (as := [.ref 40, .int 41]) (pc := 121) (ll := [some (.ref 40), some (.int y1), some (.int y2), some (.int y3), none]) (st := []) (c1 := 0) (s1 := 0) (g := (ab_G mi16 ml17)) rfl ⟨trivial, trivial, trivial⟩ hc ?_
      obtain ⟨mi21, ml22, hc, h⟩ := h
      refine ab_wc 5 (c := 162) (as := [.ref 40, .int y3, .int y2, .int y1]) (pc := 128) (ll := [some (.ref 40), some (.int y1), some (.int y2), some (.int y3), none]) (st := []) (c1 := 0) (s1 := 0) (g := (ab_G mi19 ml20)) rfl ⟨trivial, trivial, trivial, trivial, trivial⟩ hc ?_
      exact ab_wr 1 rfl trivial h
    · have h := h.2 c
      obtain ⟨r25, mi23, ml24, hc, h⟩ := h
      refine ab_wc 2 (c := 165) (as := [.ref 40]) (pc := 75) (ll := [some (.ref 40), some (.int y1), some (.int y2), some (.int y3), none]) (st := []) (c1 := 0) (s1 := 0) (g := (ab_G mi16 ml17)) rfl ⟨trivial, trivial⟩ hc ?_
      refine ab_wk 8 (f' := (if ((y3 >>> (r25 &&& 31)) &&& 1) = 1 then 87 else 95, [some (.ref 40), some (.int y1), some (.int y2), some (.int y3), some (.int r25)], [], 0, 0, (ab_G mi23 ml24))) rfl ⟨trivial, trivial, trivial, trivial, trivial, trivial, trivial, trivial, trivial⟩ ?_
      refine ab_wi (fun c => ?_) (fun c => ?_)
      · have h := h.1 c
        obtain ⟨mi26, ml27, hc, h⟩ := h
        refine ab_wc 3 (c := 153) (as := [.ref 40, .int 3]) (pc := 92) (ll := [some (.ref 40), some (.int y1), some (.int y2), some (.int y3), some (.int r25)]) (st := []) (c1 := 0) (s1 := 0) (g := (ab_G mi23 ml24)) rfl ⟨trivial, trivial, trivial⟩ hc ?_
        exact ab_wk 2 (f' := (57, [some (.ref 40), some (.int y1), some (.int y2), some (.int y3), some (.int r25)], [], 0, 0, (ab_G mi26 ml27))) rfl ⟨trivial, trivial, trivial⟩ (ab_drop h (ab_lrc _ (ab_lrc _ (ab_lrc _ (ab_lrc _ (ab_lrn _ ab_lr0))))))
      · have h := h.2 c
        exact ab_wk 13 (f' := (57, [some (.ref 40), some (.int y1), some (.int y2), some (.int (y3 ||| ((1 : Int32) <<< (r25 &&& 31)))), some (.int r25)], [], 0, 0, (ab_G (ab_ui mi23 40 7 ((mi23 40 7) + 1)) ml24))) rfl ⟨trivial, trivial, trivial, trivial, trivial, trivial, trivial, trivial, trivial, trivial, trivial, trivial, trivial, trivial⟩ (ab_drop h (ab_lrc _ (ab_lrc _ (ab_lrc _ (ab_lrc _ (ab_lrn _ ab_lr0))))))
  · have h := h.2 c
    obtain ⟨mi28, ml29, hc, h⟩ := h
    refine ab_wc 3 (c := 156) (as := [.ref 40, .int 41]) (pc := 121) (ll := [some (.ref 40), some (.int y1), some (.int y2), some (.int y3), none]) (st := []) (c1 := 0) (s1 := 0) (g := (ab_G mi ml)) rfl ⟨trivial, trivial, trivial⟩ hc ?_
    obtain ⟨mi30, ml31, hc, h⟩ := h
    refine ab_wc 5 (c := 162) (as := [.ref 40, .int y3, .int y2, .int y1]) (pc := 128) (ll := [some (.ref 40), some (.int y1), some (.int y2), some (.int y3), none]) (st := []) (c1 := 0) (s1 := 0) (g := (ab_G mi28 ml29)) rfl ⟨trivial, trivial, trivial, trivial, trivial⟩ hc ?_
    exact ab_wr 1 rfl trivial h
theorem vc_X12_readLine_0 {call : Nat → List Value → ab_S → Option Value → ab_S → Prop} {ro : ab_E} {Q : Option Value → ab_S → Prop}  (mi : Nat → Nat → Int32) (ml : Nat → Nat → Int64)
    (h : ∃ (r3 : Int32) (mi1 : Nat → Nat → Int32) (ml2 : Nat → Nat → Int64), call 155 [.ref 40, .int 0] (ab_G mi ml) (some (.int r3)) (ab_G mi1 ml2) ∧ (((r3 = 0) → (∃ (r6 : Int32) (mi4 : Nat → Nat → Int32) (ml5 : Nat → Nat → Int64), call 155 [.ref 40, .int 1] (ab_G mi1 ml2) (some (.int r6)) (ab_G mi4 ml5) ∧ (((r6 = 0) → (∃ (mi7 : Nat → Nat → Int32) (ml8 : Nat → Nat → Int64), call 153 [.ref 40, .int 1] (ab_G mi4 ml5) none (ab_G mi7 ml8) ∧ (((0 < (mi7 40 8)) → (Q none (ab_G mi7 ml8))) ∧ (¬ (0 < (mi7 40 8)) → (∃ (r11 : Int32) (mi9 : Nat → Nat → Int32) (ml10 : Nat → Nat → Int64), call 155 [.ref 40, .int 0] (ab_G mi7 ml8) (some (.int r11)) (ab_G mi9 ml10) ∧ (vp_in (mi7 40 16) 13 ∧ (∃ (mi12 : Nat → Nat → Int32) (ml13 : Nat → Nat → Int64), call 163 [.ref 40, .int 0] (ab_G (ab_ui (ab_ui mi9 49 ((mi7 40 16)).toNatClampNeg (vp_nar .boolean r11)) 40 7 ((mi9 40 7) + 1)) ml10) none (ab_G mi12 ml13) ∧ (vp_in (mi12 40 16) 13 ∧ (vp_in (mi12 40 16) 13 ∧ (∃ (mi14 : Nat → Nat → Int32) (ml15 : Nat → Nat → Int64), call 156 [.ref 40, .int 59] (ab_G (ab_ui mi12 40 16 ((mi12 40 16) + 1)) (ab_ul (ab_ul ml13 50 ((mi12 40 16)).toNatClampNeg (ml13 40 10)) 51 ((mi12 40 16)).toNatClampNeg (ml13 40 11))) none (ab_G mi14 ml15) ∧ (Q none (ab_G mi14 ml15)))))))))))) ∧ (¬ (r6 = 0) → ((((mi4 40 16) = 12) → (∃ (mi16 : Nat → Nat → Int32) (ml17 : Nat → Nat → Int64), call 153 [.ref 40, .int 5] (ab_G mi4 ml5) none (ab_G mi16 ml17) ∧ (((0 < (mi16 40 8)) → (Q none (ab_G mi16 ml17))) ∧ (¬ (0 < (mi16 40 8)) → (∃ (r20 : Int32) (mi18 : Nat → Nat → Int32) (ml19 : Nat → Nat → Int64), call 155 [.ref 40, .int 0] (ab_G mi16 ml17) (some (.int r20)) (ab_G mi18 ml19) ∧ (vp_in (mi16 40 16) 13 ∧ (∃ (mi21 : Nat → Nat → Int32) (ml22 : Nat → Nat → Int64), call 163 [.ref 40, .int 0] (ab_G (ab_ui (ab_ui mi18 49 ((mi16 40 16)).toNatClampNeg (vp_nar .boolean r20)) 40 7 ((mi18 40 7) + 1)) ml19) none (ab_G mi21 ml22) ∧ (vp_in (mi21 40 16) 13 ∧ (vp_in (mi21 40 16) 13 ∧ (∃ (mi23 : Nat → Nat → Int32) (ml24 : Nat → Nat → Int64), call 156 [.ref 40, .int 59] (ab_G (ab_ui mi21 40 16 ((mi21 40 16) + 1)) (ab_ul (ab_ul ml22 50 ((mi21 40 16)).toNatClampNeg (ml22 40 10)) 51 ((mi21 40 16)).toNatClampNeg (ml22 40 11))) none (ab_G mi23 ml24) ∧ (Q none (ab_G mi23 ml24)))))))))))) ∧ (¬ ((mi4 40 16) = 12) → (((0 < (mi4 40 8)) → (Q none (ab_G mi4 ml5))) ∧ (¬ (0 < (mi4 40 8)) → (∃ (r27 : Int32) (mi25 : Nat → Nat → Int32) (ml26 : Nat → Nat → Int64), call 155 [.ref 40, .int 0] (ab_G mi4 ml5) (some (.int r27)) (ab_G mi25 ml26) ∧ (vp_in (mi4 40 16) 13 ∧ (∃ (mi28 : Nat → Nat → Int32) (ml29 : Nat → Nat → Int64), call 163 [.ref 40, .int 0] (ab_G (ab_ui (ab_ui mi25 49 ((mi4 40 16)).toNatClampNeg (vp_nar .boolean r27)) 40 7 ((mi25 40 7) + 1)) ml26) none (ab_G mi28 ml29) ∧ (vp_in (mi28 40 16) 13 ∧ (vp_in (mi28 40 16) 13 ∧ (∃ (mi30 : Nat → Nat → Int32) (ml31 : Nat → Nat → Int64), call 156 [.ref 40, .int 59] (ab_G (ab_ui mi28 40 16 ((mi28 40 16) + 1)) (ab_ul (ab_ul ml29 50 ((mi28 40 16)).toNatClampNeg (ml29 40 10)) 51 ((mi28 40 16)).toNatClampNeg (ml29 40 11))) none (ab_G mi30 ml31) ∧ (Q none (ab_G mi30 ml31)))))))))))))))) ∧ (¬ (r3 = 0) → ((((mi1 40 16) = 12) → (∃ (mi32 : Nat → Nat → Int32) (ml33 : Nat → Nat → Int64), call 153 [.ref 40, .int 5] (ab_G mi1 ml2) none (ab_G mi32 ml33) ∧ (((0 < (mi32 40 8)) → (Q none (ab_G mi32 ml33))) ∧ (¬ (0 < (mi32 40 8)) → (∃ (r36 : Int32) (mi34 : Nat → Nat → Int32) (ml35 : Nat → Nat → Int64), call 155 [.ref 40, .int 0] (ab_G mi32 ml33) (some (.int r36)) (ab_G mi34 ml35) ∧ (vp_in (mi32 40 16) 13 ∧ (∃ (mi37 : Nat → Nat → Int32) (ml38 : Nat → Nat → Int64), call 163 [.ref 40, .int 0] (ab_G (ab_ui (ab_ui mi34 49 ((mi32 40 16)).toNatClampNeg (vp_nar .boolean r36)) 40 7 ((mi34 40 7) + 1)) ml35) none (ab_G mi37 ml38) ∧ (vp_in (mi37 40 16) 13 ∧ (vp_in (mi37 40 16) 13 ∧ (∃ (mi39 : Nat → Nat → Int32) (ml40 : Nat → Nat → Int64), call 156 [.ref 40, .int 59] (ab_G (ab_ui mi37 40 16 ((mi37 40 16) + 1)) (ab_ul (ab_ul ml38 50 ((mi37 40 16)).toNatClampNeg (ml38 40 10)) 51 ((mi37 40 16)).toNatClampNeg (ml38 40 11))) none (ab_G mi39 ml40) ∧ (Q none (ab_G mi39 ml40)))))))))))) ∧ (¬ ((mi1 40 16) = 12) → (((0 < (mi1 40 8)) → (Q none (ab_G mi1 ml2))) ∧ (¬ (0 < (mi1 40 8)) → (∃ (r43 : Int32) (mi41 : Nat → Nat → Int32) (ml42 : Nat → Nat → Int64), call 155 [.ref 40, .int 0] (ab_G mi1 ml2) (some (.int r43)) (ab_G mi41 ml42) ∧ (vp_in (mi1 40 16) 13 ∧ (∃ (mi44 : Nat → Nat → Int32) (ml45 : Nat → Nat → Int64), call 163 [.ref 40, .int 0] (ab_G (ab_ui (ab_ui mi41 49 ((mi1 40 16)).toNatClampNeg (vp_nar .boolean r43)) 40 7 ((mi41 40 7) + 1)) ml42) none (ab_G mi44 ml45) ∧ (vp_in (mi44 40 16) 13 ∧ (vp_in (mi44 40 16) 13 ∧ (∃ (mi46 : Nat → Nat → Int32) (ml47 : Nat → Nat → Int64), call 156 [.ref 40, .int 59] (ab_G (ab_ui mi44 40 16 ((mi44 40 16) + 1)) (ab_ul (ab_ul ml45 50 ((mi44 40 16)).toNatClampNeg (ml45 40 10)) 51 ((mi44 40 16)).toNatClampNeg (ml45 40 11))) none (ab_G mi46 ml47) ∧ (Q none (ab_G mi46 ml47))))))))))))))) :
    ab_W call ro 0 0 (ab_lk2 pl_X12_readLine) Q (0, [some (.ref 40)], [], 0, 0, ab_G mi ml) := by
  obtain ⟨r3, mi1, ml2, hc, h⟩ := h
  refine ab_wc 3 (c := 155) (as := [.ref 40, .int 0]) (pc := 5) (ll := [some (.ref 40)]) (st := []) (c1 := 0) (s1 := 0) (g := (ab_G mi ml)) rfl ⟨trivial, trivial, trivial⟩ hc ?_
  refine ab_wk 1 (f' := (if r3 = 0 then 8 else 24, [some (.ref 40)], [], 0, 0, (ab_G mi1 ml2))) rfl ⟨trivial, trivial⟩ ?_
  refine ab_wi (fun c => ?_) (fun c => ?_)
  · have h := h.1 c
    obtain ⟨r6, mi4, ml5, hc, h⟩ := h
    refine ab_wc 3 (c := 155) (as := [.ref 40, .int 1]) (pc := 13) (ll := [some (.ref 40)]) (st := []) (c1 := 0) (s1 := 0) (g := (ab_G mi1 ml2)) rfl ⟨trivial, trivial, trivial⟩ hc ?_
    refine ab_wk 1 (f' := (if r6 = 0 then 16 else 24, [some (.ref 40)], [], 0, 0, (ab_G mi4 ml5))) rfl ⟨trivial, trivial⟩ ?_
    refine ab_wi (fun c => ?_) (fun c => ?_)
    · have h := h.1 c
      obtain ⟨mi7, ml8, hc, h⟩ := h
      refine ab_wc 3 (c := 153) (as := [.ref 40, .int 1]) (pc := 21) (ll := [some (.ref 40)]) (st := []) (c1 := 0) (s1 := 0) (g := (ab_G mi4 ml5)) rfl ⟨trivial, trivial, trivial⟩ hc ?_
      refine ab_wk 4 (f' := (if 0 < (mi7 40 8) then 45 else 46, [some (.ref 40)], [], 0, 0, (ab_G mi7 ml8))) rfl ⟨trivial, trivial, trivial, trivial, trivial⟩ ?_
      refine ab_wi (fun c => ?_) (fun c => ?_)
      · have h := h.1 c
        exact ab_wr 1 rfl trivial h
      · have h := h.2 c
        obtain ⟨r11, mi9, ml10, hc, h⟩ := h
        refine ab_wc 7 (c := 155) (as := [.ref 40, .int 0]) (pc := 59) (ll := [some (.ref 40)]) (st := [.int (mi7 40 16), .ref 49]) (c1 := 0) (s1 := 0) (g := (ab_G mi7 ml8)) rfl ⟨trivial, trivial, trivial, trivial, trivial, trivial, trivial⟩ hc ?_
        obtain ⟨p0, h⟩ := h
        obtain ⟨mi12, ml13, hc, h⟩ := h
        refine ab_wc 10 (c := 163) (as := [.ref 40, .int 0]) (pc := 75) (ll := [some (.ref 40)]) (st := []) (c1 := 0) (s1 := 0) (g := (ab_G (ab_ui (ab_ui mi9 49 ((mi7 40 16)).toNatClampNeg (vp_nar .boolean r11)) 40 7 ((mi9 40 7) + 1)) ml10)) rfl ⟨p0, trivial, trivial, trivial, trivial, trivial, trivial, trivial, trivial, trivial⟩ hc ?_
        obtain ⟨p0, p1, h⟩ := h
        obtain ⟨mi14, ml15, hc, h⟩ := h
        refine ab_wc 23 (c := 156) (as := [.ref 40, .int 59]) (pc := 117) (ll := [some (.ref 40)]) (st := []) (c1 := 0) (s1 := 0) (g := (ab_G (ab_ui mi12 40 16 ((mi12 40 16) + 1)) (ab_ul (ab_ul ml13 50 ((mi12 40 16)).toNatClampNeg (ml13 40 10)) 51 ((mi12 40 16)).toNatClampNeg (ml13 40 11)))) rfl ⟨trivial, trivial, trivial, trivial, trivial, trivial, p0, trivial, trivial, trivial, trivial, trivial, trivial, p1, trivial, trivial, trivial, trivial, trivial, trivial, trivial, trivial, trivial⟩ hc ?_
        exact ab_wr 1 rfl trivial h
    · have h := h.2 c
      refine ab_wk 4 (f' := (if (mi4 40 16) = 12 then 33 else 38, [some (.ref 40)], [], 0, 0, (ab_G mi4 ml5))) rfl ⟨trivial, trivial, trivial, trivial, trivial⟩ ?_
      refine ab_wi (fun c => ?_) (fun c => ?_)
      · have h := h.1 c
        obtain ⟨mi16, ml17, hc, h⟩ := h
        refine ab_wc 3 (c := 153) (as := [.ref 40, .int 5]) (pc := 38) (ll := [some (.ref 40)]) (st := []) (c1 := 0) (s1 := 0) (g := (ab_G mi4 ml5)) rfl ⟨trivial, trivial, trivial⟩ hc ?_
        refine ab_wk 3 (f' := (if 0 < (mi16 40 8) then 45 else 46, [some (.ref 40)], [], 0, 0, (ab_G mi16 ml17))) rfl ⟨trivial, trivial, trivial, trivial⟩ ?_
        refine ab_wi (fun c => ?_) (fun c => ?_)
        · have h := h.1 c
          exact ab_wr 1 rfl trivial h
        · have h := h.2 c
          obtain ⟨r20, mi18, ml19, hc, h⟩ := h
          refine ab_wc 7 (c := 155) (as := [.ref 40, .int 0]) (pc := 59) (ll := [some (.ref 40)]) (st := [.int (mi16 40 16), .ref 49]) (c1 := 0) (s1 := 0) (g := (ab_G mi16 ml17)) rfl ⟨trivial, trivial, trivial, trivial, trivial, trivial, trivial⟩ hc ?_
          obtain ⟨p0, h⟩ := h
          obtain ⟨mi21, ml22, hc, h⟩ := h
          refine ab_wc 10 (c := 163) (as := [.ref 40, .int 0]) (pc := 75) (ll := [some (.ref 40)]) (st := []) (c1 := 0) (s1 := 0) (g := (ab_G (ab_ui (ab_ui mi18 49 ((mi16 40 16)).toNatClampNeg (vp_nar .boolean r20)) 40 7 ((mi18 40 7) + 1)) ml19)) rfl ⟨p0, trivial, trivial, trivial, trivial, trivial, trivial, trivial, trivial, trivial⟩ hc ?_
          obtain ⟨p0, p1, h⟩ := h
          obtain ⟨mi23, ml24, hc, h⟩ := h
          refine ab_wc 23 (c := 156) (as := [.ref 40, .int 59]) (pc := 117) (ll := [some (.ref 40)]) (st := []) (c1 := 0) (s1 := 0) (g := (ab_G (ab_ui mi21 40 16 ((mi21 40 16) + 1)) (ab_ul (ab_ul ml22 50 ((mi21 40 16)).toNatClampNeg (ml22 40 10)) 51 ((mi21 40 16)).toNatClampNeg (ml22 40 11)))) rfl ⟨trivial, trivial, trivial, trivial, trivial, trivial, p0, trivial, trivial, trivial, trivial, trivial, trivial, p1, trivial, trivial, trivial, trivial, trivial, trivial, trivial, trivial, trivial⟩ hc ?_
          exact ab_wr 1 rfl trivial h
      · have h := h.2 c
        refine ab_wk 3 (f' := (if 0 < (mi4 40 8) then 45 else 46, [some (.ref 40)], [], 0, 0, (ab_G mi4 ml5))) rfl ⟨trivial, trivial, trivial, trivial⟩ ?_
        refine ab_wi (fun c => ?_) (fun c => ?_)
        · have h := h.1 c
          exact ab_wr 1 rfl trivial h
        · have h := h.2 c
          obtain ⟨r27, mi25, ml26, hc, h⟩ := h
          refine ab_wc 7 (c := 155) (as := [.ref 40, .int 0]) (pc := 59) (ll := [some (.ref 40)]) (st := [.int (mi4 40 16), .ref 49]) (c1 := 0) (s1 := 0) (g := (ab_G mi4 ml5)) rfl ⟨trivial, trivial, trivial, trivial, trivial, trivial, trivial⟩ hc ?_
          obtain ⟨p0, h⟩ := h
          obtain ⟨mi28, ml29, hc, h⟩ := h
          refine ab_wc 10 (c := 163) (as := [.ref 40, .int 0]) (pc := 75) (ll := [some (.ref 40)]) (st := []) (c1 := 0) (s1 := 0) (g := (ab_G (ab_ui (ab_ui mi25 49 ((mi4 40 16)).toNatClampNeg (vp_nar .boolean r27)) 40 7 ((mi25 40 7) + 1)) ml26)) rfl ⟨p0, trivial, trivial, trivial, trivial, trivial, trivial, trivial, trivial, trivial⟩ hc ?_
          obtain ⟨p0, p1, h⟩ := h
          obtain ⟨mi30, ml31, hc, h⟩ := h
          refine ab_wc 23 (c := 156) (as := [.ref 40, .int 59]) (pc := 117) (ll := [some (.ref 40)]) (st := []) (c1 := 0) (s1 := 0) (g := (ab_G (ab_ui mi28 40 16 ((mi28 40 16) + 1)) (ab_ul (ab_ul ml29 50 ((mi28 40 16)).toNatClampNeg (ml29 40 10)) 51 ((mi28 40 16)).toNatClampNeg (ml29 40 11)))) rfl ⟨trivial, trivial, trivial, trivial, trivial, trivial, p0, trivial, trivial, trivial, trivial, trivial, trivial, p1, trivial, trivial, trivial, trivial, trivial, trivial, trivial, trivial, trivial⟩ hc ?_
          exact ab_wr 1 rfl trivial h
  · have h := h.2 c
    refine ab_wk 4 (f' := (if (mi1 40 16) = 12 then 33 else 38, [some (.ref 40)], [], 0, 0, (ab_G mi1 ml2))) rfl ⟨trivial, trivial, trivial, trivial, trivial⟩ ?_
    refine ab_wi (fun c => ?_) (fun c => ?_)
    · have h := h.1 c
      obtain ⟨mi32, ml33, hc, h⟩ := h
      refine ab_wc 3 (c := 153) (as := [.ref 40, .int 5]) (pc := 38) (ll := [some (.ref 40)]) (st := []) (c1 := 0) (s1 := 0) (g := (ab_G mi1 ml2)) rfl ⟨trivial, trivial, trivial⟩ hc ?_
      refine ab_wk 3 (f' := (if 0 < (mi32 40 8) then 45 else 46, [some (.ref 40)], [], 0, 0, (ab_G mi32 ml33))) rfl ⟨trivial, trivial, trivial, trivial⟩ ?_
      refine ab_wi (fun c => ?_) (fun c => ?_)
      · have h := h.1 c
        exact ab_wr 1 rfl trivial h
      · have h := h.2 c
        obtain ⟨r36, mi34, ml35, hc, h⟩ := h
        refine ab_wc 7 (c := 155) (as := [.ref 40, .int 0]) (pc := 59) (ll := [some (.ref 40)]) (st := [.int (mi32 40 16), .ref 49]) (c1 := 0) (s1 := 0) (g := (ab_G mi32 ml33)) rfl ⟨trivial, trivial, trivial, trivial, trivial, trivial, trivial⟩ hc ?_
        obtain ⟨p0, h⟩ := h
        obtain ⟨mi37, ml38, hc, h⟩ := h
        refine ab_wc 10 (c := 163) (as := [.ref 40, .int 0]) (pc := 75) (ll := [some (.ref 40)]) (st := []) (c1 := 0) (s1 := 0) (g := (ab_G (ab_ui (ab_ui mi34 49 ((mi32 40 16)).toNatClampNeg (vp_nar .boolean r36)) 40 7 ((mi34 40 7) + 1)) ml35)) rfl ⟨p0, trivial, trivial, trivial, trivial, trivial, trivial, trivial, trivial, trivial⟩ hc ?_
        obtain ⟨p0, p1, h⟩ := h
        obtain ⟨mi39, ml40, hc, h⟩ := h
        refine ab_wc 23 (c := 156) (as := [.ref 40, .int 59]) (pc := 117) (ll := [some (.ref 40)]) (st := []) (c1 := 0) (s1 := 0) (g := (ab_G (ab_ui mi37 40 16 ((mi37 40 16) + 1)) (ab_ul (ab_ul ml38 50 ((mi37 40 16)).toNatClampNeg (ml38 40 10)) 51 ((mi37 40 16)).toNatClampNeg (ml38 40 11)))) rfl ⟨trivial, trivial, trivial, trivial, trivial, trivial, p0, trivial, trivial, trivial, trivial, trivial, trivial, p1, trivial, trivial, trivial, trivial, trivial, trivial, trivial, trivial, trivial⟩ hc ?_
        exact ab_wr 1 rfl trivial h
    · have h := h.2 c
      refine ab_wk 3 (f' := (if 0 < (mi1 40 8) then 45 else 46, [some (.ref 40)], [], 0, 0, (ab_G mi1 ml2))) rfl ⟨trivial, trivial, trivial, trivial⟩ ?_
      refine ab_wi (fun c => ?_) (fun c => ?_)
      · have h := h.1 c
        exact ab_wr 1 rfl trivial h
      · have h := h.2 c
        obtain ⟨r43, mi41, ml42, hc, h⟩ := h
        refine ab_wc 7 (c := 155) (as := [.ref 40, .int 0]) (pc := 59) (ll := [some (.ref 40)]) (st := [.int (mi1 40 16), .ref 49]) (c1 := 0) (s1 := 0) (g := (ab_G mi1 ml2)) rfl ⟨trivial, trivial, trivial, trivial, trivial, trivial, trivial⟩ hc ?_
        obtain ⟨p0, h⟩ := h
        obtain ⟨mi44, ml45, hc, h⟩ := h
        refine ab_wc 10 (c := 163) (as := [.ref 40, .int 0]) (pc := 75) (ll := [some (.ref 40)]) (st := []) (c1 := 0) (s1 := 0) (g := (ab_G (ab_ui (ab_ui mi41 49 ((mi1 40 16)).toNatClampNeg (vp_nar .boolean r43)) 40 7 ((mi41 40 7) + 1)) ml42)) rfl ⟨p0, trivial, trivial, trivial, trivial, trivial, trivial, trivial, trivial, trivial⟩ hc ?_
        obtain ⟨p0, p1, h⟩ := h
        obtain ⟨mi46, ml47, hc, h⟩ := h
        refine ab_wc 23 (c := 156) (as := [.ref 40, .int 59]) (pc := 117) (ll := [some (.ref 40)]) (st := []) (c1 := 0) (s1 := 0) (g := (ab_G (ab_ui mi44 40 16 ((mi44 40 16) + 1)) (ab_ul (ab_ul ml45 50 ((mi44 40 16)).toNatClampNeg (ml45 40 10)) 51 ((mi44 40 16)).toNatClampNeg (ml45 40 11)))) rfl ⟨trivial, trivial, trivial, trivial, trivial, trivial, p0, trivial, trivial, trivial, trivial, trivial, trivial, p1, trivial, trivial, trivial, trivial, trivial, trivial, trivial, trivial, trivial⟩ hc ?_
        exact ab_wr 1 rfl trivial h
theorem vc_X12_law_0 {call : Nat → List Value → ab_S → Option Value → ab_S → Prop} {ro : ab_E} {Q : Option Value → ab_S → Prop}  (mi : Nat → Nat → Int32) (ml : Nat → Nat → Int64)
    (h : ∃ (mi1 : Nat → Nat → Int32) (ml2 : Nat → Nat → Int64), call 152 [.ref 40] (ab_G (ab_ui mi 40 0 0) ml) none (ab_G mi1 ml2) ∧ (ab_W call ro 0 0 (ab_lk2 pl_X12_law) Q (14, [some (.ref 40), none], [], 0, 0, (ab_G (ab_ui mi1 40 16 0) ml2)))) :
    ab_W call ro 0 0 (ab_lk2 pl_X12_law) Q (0, [some (.ref 40), none], [], 0, 0, ab_G mi ml) := by
  obtain ⟨mi1, ml2, hc, h⟩ := h
  refine ab_wc 5 (c := 152) (as := [.ref 40]) (pc := 9) (ll := [some (.ref 40), none]) (st := []) (c1 := 0) (s1 := 0) (g := (ab_G (ab_ui mi 40 0 0) ml)) rfl ⟨trivial, trivial, trivial, trivial, trivial⟩ hc ?_
  exact ab_wk 3 (f' := (14, [some (.ref 40), none], [], 0, 0, (ab_G (ab_ui mi1 40 16 0) ml2))) rfl ⟨trivial, trivial, trivial, trivial⟩ h
theorem vc_X12_law_14 {call : Nat → List Value → ab_S → Option Value → ab_S → Prop} {ro : ab_E} {Q : Option Value → ab_S → Prop}  (mi : Nat → Nat → Int32) (ml : Nat → Nat → Int64)
    (h : (((mi 40 8) = 0) → (vp_in (mi 40 7) 1002 ∧ ((((mi 42 ((mi 40 7)).toNatClampNeg) = 0) → (((0 < (mi 40 8)) → (Q (some (.int (mi 40 8))) (ab_G mi ml))) ∧ (¬ (0 < (mi 40 8)) → (ab_W call ro 0 0 (ab_lk2 pl_X12_law) Q (62, [some (.ref 40), some (.int 0)], [], 0, 0, (ab_G (ab_ui mi 40 12 (mi 40 16)) ml)))))) ∧ (¬ ((mi 42 ((mi 40 7)).toNatClampNeg) = 0) → (∃ (mi3 : Nat → Nat → Int32) (ml4 : Nat → Nat → Int64), call 169 [.ref 40] (ab_G mi ml) none (ab_G mi3 ml4) ∧ (ab_W call ro 0 0 (ab_lk2 pl_X12_law) Q (14, [some (.ref 40), none], [], 0, 0, (ab_G mi3 ml4)))))))) ∧ (¬ ((mi 40 8) = 0) → (((0 < (mi 40 8)) → (Q (some (.int (mi 40 8))) (ab_G mi ml))) ∧ (¬ (0 < (mi 40 8)) → (ab_W call ro 0 0 (ab_lk2 pl_X12_law) Q (62, [some (.ref 40), some (.int 0)], [], 0, 0, (ab_G (ab_ui mi 40 12 (mi 40 16)) ml))))))) :
    ab_W call ro 0 0 (ab_lk2 pl_X12_law) Q (14, [some (.ref 40), none], [], 0, 0, ab_G mi ml) := by
  refine ab_wk 3 (f' := (if (mi 40 8) = 0 then 21 else 40, [some (.ref 40), none], [], 0, 0, (ab_G mi ml))) rfl ⟨trivial, trivial, trivial, trivial⟩ ?_
  refine ab_wi (fun c => ?_) (fun c => ?_)
  · have h := h.1 c
    obtain ⟨p0, h⟩ := h
    refine ab_wk 6 (f' := (if (mi 42 ((mi 40 7)).toNatClampNeg) = 0 then 40 else 33, [some (.ref 40), none], [], 0, 0, (ab_G mi ml))) rfl ⟨trivial, trivial, trivial, trivial, p0, trivial, trivial⟩ ?_
    refine ab_wi (fun c => ?_) (fun c => ?_)
    · have h := h.1 c
      refine ab_wk 3 (f' := (if 0 < (mi 40 8) then 47 else 52, [some (.ref 40), none], [], 0, 0, (ab_G mi ml))) rfl ⟨trivial, trivial, trivial, trivial⟩ ?_
      refine ab_wi (fun c => ?_) (fun c => ?_)
      · have h := h.1 c
        exact ab_wr 3 rfl ⟨trivial, trivial, trivial⟩ h
      · have h := h.2 c
        exact ab_wk 6 (f' := (62, [some (.ref 40), some (.int 0)], [], 0, 0, (ab_G (ab_ui mi 40 12 (mi 40 16)) ml))) rfl ⟨trivial, trivial, trivial, trivial, trivial, trivial, trivial⟩ h
    · have h := h.2 c
      obtain ⟨mi3, ml4, hc, h⟩ := h
      refine ab_wc 2 (c := 169) (as := [.ref 40]) (pc := 37) (ll := [some (.ref 40), none]) (st := []) (c1 := 0) (s1 := 0) (g := (ab_G mi ml)) rfl ⟨trivial, trivial⟩ hc ?_
      exact ab_wk 1 (f' := (14, [some (.ref 40), none], [], 0, 0, (ab_G mi3 ml4))) rfl ⟨trivial, trivial⟩ h
  · have h := h.2 c
    refine ab_wk 3 (f' := (if 0 < (mi 40 8) then 47 else 52, [some (.ref 40), none], [], 0, 0, (ab_G mi ml))) rfl ⟨trivial, trivial, trivial, trivial⟩ ?_
    refine ab_wi (fun c => ?_) (fun c => ?_)
    · have h := h.1 c
      exact ab_wr 3 rfl ⟨trivial, trivial, trivial⟩ h
    · have h := h.2 c
      exact ab_wk 6 (f' := (62, [some (.ref 40), some (.int 0)], [], 0, 0, (ab_G (ab_ui mi 40 12 (mi 40 16)) ml))) rfl ⟨trivial, trivial, trivial, trivial, trivial, trivial, trivial⟩ h
theorem vc_X12_law_62 {call : Nat → List Value → ab_S → Option Value → ab_S → Prop} {ro : ab_E} {Q : Option Value → ab_S → Prop} (y1 : Int32) (mi : Nat → Nat → Int32) (ml : Nat → Nat → Int64)
    (h : ((y1 < (mi 40 16)) → (vp_in y1 13 ∧ (vp_in y1 12 ∧ (vp_in y1 13 ∧ (vp_in y1 12 ∧ (vp_in y1 13 ∧ (vp_in y1 12 ∧ (ab_W call ro 0 0 (ab_lk2 pl_X12_law) Q (62, [some (.ref 40), some (.int (y1 + 1))], [], 0, 0, (ab_G (ab_ui mi 46 (y1).toNatClampNeg (vp_nar .boolean (mi 49 (y1).toNatClampNeg))) (ab_ul (ab_ul ml 47 (y1).toNatClampNeg (ml 50 (y1).toNatClampNeg)) 48 (y1).toNatClampNeg (ml 51 (y1).toNatClampNeg)))))))))))) ∧ (¬ (y1 < (mi 40 16)) → (ab_W call ro 0 0 (ab_lk2 pl_X12_law) Q (124, [some (.ref 40), some (.int 0)], [], 0, 0, (ab_G (ab_ui (ab_ui mi 40 20 0) 40 30 0) ml))))) :
    ab_W call ro 0 0 (ab_lk2 pl_X12_law) Q (62, [some (.ref 40), some (.int y1)], [], 0, 0, ab_G mi ml) := by
  refine ab_wk 4 (f' := (if y1 < (mi 40 16) then 70 else 112, [some (.ref 40), some (.int y1)], [], 0, 0, (ab_G mi ml))) rfl ⟨trivial, trivial, trivial, trivial, trivial⟩ ?_
  refine ab_wi (fun c => ?_) (fun c => ?_)
  · have h := h.1 c
    obtain ⟨p0, p1, p2, p3, p4, p5, h⟩ := h
    exact ab_wk 26 (f' := (62, [some (.ref 40), some (.int (y1 + 1))], [], 0, 0, (ab_G (ab_ui mi 46 (y1).toNatClampNeg (vp_nar .boolean (mi 49 (y1).toNatClampNeg))) (ab_ul (ab_ul ml 47 (y1).toNatClampNeg (ml 50 (y1).toNatClampNeg)) 48 (y1).toNatClampNeg (ml 51 (y1).toNatClampNeg))))) rfl ⟨trivial, trivial, trivial, trivial, trivial, trivial, p0, p1, trivial, trivial, trivial, trivial, trivial, trivial, p2, p3, trivial, trivial, trivial, trivial, trivial, trivial, p4, p5, trivial, trivial, trivial⟩ h
  · have h := h.2 c
    exact ab_wk 8 (f' := (124, [some (.ref 40), some (.int 0)], [], 0, 0, (ab_G (ab_ui (ab_ui mi 40 20 0) 40 30 0) ml))) rfl ⟨trivial, trivial, trivial, trivial, trivial, trivial, trivial, trivial, trivial⟩ h
theorem vc_X12_law_124 {call : Nat → List Value → ab_S → Option Value → ab_S → Prop} {ro : ab_E} {Q : Option Value → ab_S → Prop} (y1 : Int32) (mi : Nat → Nat → Int32) (ml : Nat → Nat → Int64)
    (h : ((y1 < 42) → (vp_in y1 42 ∧ (ab_W call ro 0 0 (ab_lk2 pl_X12_law) Q (124, [some (.ref 40), some (.int (y1 + 1))], [], 0, 0, (ab_G (ab_ui mi 78 (y1).toNatClampNeg (vp_nar .boolean 0)) ml))))) ∧ (¬ (y1 < 42) → (Q (some (.int 0)) (ab_G mi ml)))) :
    ab_W call ro 0 0 (ab_lk2 pl_X12_law) Q (124, [some (.ref 40), some (.int y1)], [], 0, 0, ab_G mi ml) := by
  refine ab_wk 3 (f' := (if y1 < 42 then 130 else 143, [some (.ref 40), some (.int y1)], [], 0, 0, (ab_G mi ml))) rfl ⟨trivial, trivial, trivial, trivial⟩ ?_
  refine ab_wi (fun c => ?_) (fun c => ?_)
  · have h := h.1 c
    obtain ⟨p0, h⟩ := h
    exact ab_wk 7 (f' := (124, [some (.ref 40), some (.int (y1 + 1))], [], 0, 0, (ab_G (ab_ui mi 78 (y1).toNatClampNeg (vp_nar .boolean 0)) ml))) rfl ⟨trivial, trivial, trivial, trivial, p0, trivial, trivial, trivial⟩ h
  · have h := h.2 c
    exact ab_wr 2 rfl ⟨trivial, trivial⟩ h
theorem vc_X12_wish_0 {call : Nat → List Value → ab_S → Option Value → ab_S → Prop} {ro : ab_E} {Q : Option Value → ab_S → Prop} (x1 : Int32) (mi : Nat → Nat → Int32) (ml : Nat → Nat → Int64)
    (h : ∃ (r3 : Int32) (mi1 : Nat → Nat → Int32) (ml2 : Nat → Nat → Int64), call 178 [.int x1, .int 0, .int 99] (ab_G (ab_ui mi 40 0 0) ml) (some (.int r3)) (ab_G mi1 ml2) ∧ (((r3 = 0) → (Q (some (.int (-1))) (ab_G (ab_ui mi1 40 2 0) ml2))) ∧ (¬ (r3 = 0) → ((((mi1 40 20) = 30) → (Q (some (.int (-1))) (ab_G (ab_ui mi1 40 2 0) ml2))) ∧ (¬ ((mi1 40 20) = 30) → (∃ (mi4 : Nat → Nat → Int32) (ml5 : Nat → Nat → Int64), call 152 [.ref 40] (ab_G mi1 ml2) none (ab_G mi4 ml5) ∧ (∃ (r8 : Int32) (mi6 : Nat → Nat → Int32) (ml7 : Nat → Nat → Int64), call 155 [.ref 40, .int 10] (ab_G (ab_ui mi4 40 16 0) ml5) (some (.int r8)) (ab_G mi6 ml7) ∧ (((r8 = 0) → (∃ (r11 : Int32) (mi9 : Nat → Nat → Int32) (ml10 : Nat → Nat → Int64), call 155 [.ref 40, .int 11] (ab_G mi6 ml7) (some (.int r11)) (ab_G mi9 ml10) ∧ (((r11 = 0) → (∃ (r14 : Int32) (mi12 : Nat → Nat → Int32) (ml13 : Nat → Nat → Int64), call 155 [.ref 40, .int 12] (ab_G mi9 ml10) (some (.int r14)) (ab_G mi12 ml13) ∧ (((r14 = 0) → (∃ (r17 : Int32) (mi15 : Nat → Nat → Int32) (ml16 : Nat → Nat → Int64), call 155 [.ref 40, .int 14] (ab_G mi12 ml13) (some (.int r17)) (ab_G mi15 ml16) ∧ (((r17 = 0) → (∃ (mi18 : Nat → Nat → Int32) (ml19 : Nat → Nat → Int64), call 153 [.ref 40, .int 1] (ab_G mi15 ml16) none (ab_G mi18 ml19) ∧ ((((mi18 40 8) = 0) → (∃ (r22 : Int32) (mi20 : Nat → Nat → Int32) (ml21 : Nat → Nat → Int64), call 176 [.ref 40] (ab_G mi18 ml19) (some (.int r22)) (ab_G mi20 ml21) ∧ (∃ (mi23 : Nat → Nat → Int32) (ml24 : Nat → Nat → Int64), call 156 [.ref 40, .int 59] (ab_G mi20 ml21) none (ab_G mi23 ml24) ∧ ((((mi23 40 8) = 0) → (vp_in (mi23 40 7) 1002 ∧ ((((mi23 42 ((mi23 40 7)).toNatClampNeg) = 0) → ((((mi23 40 8) = 0) → (∃ (mi25 : Nat → Nat → Int32) (ml26 : Nat → Nat → Int64), call 177 [.ref 40, .int x1, .int (-1), .int r22] (ab_G mi23 ml24) none (ab_G mi25 ml26) ∧ (Q (some (.int (mi25 40 8))) (ab_G mi25 ml26)))) ∧ (¬ ((mi23 40 8) = 0) → (Q (some (.int (mi23 40 8))) (ab_G mi23 ml24))))) ∧ (¬ ((mi23 42 ((mi23 40 7)).toNatClampNeg) = 0) → (∃ (mi27 : Nat → Nat → Int32) (ml28 : Nat → Nat → Int64), call 153 [.ref 40, .int 1] (ab_G mi23 ml24) none (ab_G mi27 ml28) ∧ ((((mi27 40 8) = 0) → (∃ (mi29 : Nat → Nat → Int32) (ml30 : Nat → Nat → Int64), call 177 [.ref 40, .int x1, .int (-1), .int r22] (ab_G mi27 ml28) none (ab_G mi29 ml30) ∧ (Q (some (.int (mi29 40 8))) (ab_G mi29 ml30)))) ∧ (¬ ((mi27 40 8) = 0) → (Q (some (.int (mi27 40 8))) (ab_G mi27 ml28))))))))) ∧ (¬ ((mi23 40 8) = 0) → ((((mi23 40 8) = 0) → (∃ (mi31 : Nat → Nat → Int32) (ml32 : Nat → Nat → Int64), call 177 [.ref 40, .int x1, .int (-1), .int r22] (ab_G mi23 ml24) none (ab_G mi31 ml32) ∧ (Q (some (.int (mi31 40 8))) (ab_G mi31 ml32)))) ∧ (¬ ((mi23 40 8) = 0) → (Q (some (.int (mi23 40 8))) (ab_G mi23 ml24))))))))) ∧ (¬ ((mi18 40 8) = 0) → (∃ (mi33 : Nat → Nat → Int32) (ml34 : Nat → Nat → Int64), call 156 [.ref 40, .int 59] (ab_G mi18 ml19) none (ab_G mi33 ml34) ∧ ((((mi33 40 8) = 0) → (vp_in (mi33 40 7) 1002 ∧ ((((mi33 42 ((mi33 40 7)).toNatClampNeg) = 0) → ((((mi33 40 8) = 0) → (∃ (mi35 : Nat → Nat → Int32) (ml36 : Nat → Nat → Int64), call 177 [.ref 40, .int x1, .int (-1), .int (-1)] (ab_G mi33 ml34) none (ab_G mi35 ml36) ∧ (Q (some (.int (mi35 40 8))) (ab_G mi35 ml36)))) ∧ (¬ ((mi33 40 8) = 0) → (Q (some (.int (mi33 40 8))) (ab_G mi33 ml34))))) ∧ (¬ ((mi33 42 ((mi33 40 7)).toNatClampNeg) = 0) → (∃ (mi37 : Nat → Nat → Int32) (ml38 : Nat → Nat → Int64), call 153 [.ref 40, .int 1] (ab_G mi33 ml34) none (ab_G mi37 ml38) ∧ ((((mi37 40 8) = 0) → (∃ (mi39 : Nat → Nat → Int32) (ml40 : Nat → Nat → Int64), call 177 [.ref 40, .int x1, .int (-1), .int (-1)] (ab_G mi37 ml38) none (ab_G mi39 ml40) ∧ (Q (some (.int (mi39 40 8))) (ab_G mi39 ml40)))) ∧ (¬ ((mi37 40 8) = 0) → (Q (some (.int (mi37 40 8))) (ab_G mi37 ml38))))))))) ∧ (¬ ((mi33 40 8) = 0) → ((((mi33 40 8) = 0) → (∃ (mi41 : Nat → Nat → Int32) (ml42 : Nat → Nat → Int64), call 177 [.ref 40, .int x1, .int (-1), .int (-1)] (ab_G mi33 ml34) none (ab_G mi41 ml42) ∧ (Q (some (.int (mi41 40 8))) (ab_G mi41 ml42)))) ∧ (¬ ((mi33 40 8) = 0) → (Q (some (.int (mi33 40 8))) (ab_G mi33 ml34))))))))))) ∧ (¬ (r17 = 0) → ((((mi15 40 8) = 0) → (∃ (mi43 : Nat → Nat → Int32) (ml44 : Nat → Nat → Int64), call 169 [.ref 40] (ab_G (ab_ui mi15 40 7 ((mi15 40 7) + 1)) ml16) none (ab_G mi43 ml44) ∧ ((((mi43 40 8) = 0) → (vp_in (mi43 40 7) 1002 ∧ ((((mi43 42 ((mi43 40 7)).toNatClampNeg) = 0) → ((((mi43 40 8) = 0) → (∃ (mi45 : Nat → Nat → Int32) (ml46 : Nat → Nat → Int64), call 177 [.ref 40, .int x1, .int 3, .int (-1)] (ab_G mi43 ml44) none (ab_G mi45 ml46) ∧ (Q (some (.int (mi45 40 8))) (ab_G mi45 ml46)))) ∧ (¬ ((mi43 40 8) = 0) → (Q (some (.int (mi43 40 8))) (ab_G mi43 ml44))))) ∧ (¬ ((mi43 42 ((mi43 40 7)).toNatClampNeg) = 0) → (∃ (mi47 : Nat → Nat → Int32) (ml48 : Nat → Nat → Int64), call 153 [.ref 40, .int 1] (ab_G mi43 ml44) none (ab_G mi47 ml48) ∧ ((((mi47 40 8) = 0) → (∃ (mi49 : Nat → Nat → Int32) (ml50 : Nat → Nat → Int64), call 177 [.ref 40, .int x1, .int 3, .int (-1)] (ab_G mi47 ml48) none (ab_G mi49 ml50) ∧ (Q (some (.int (mi49 40 8))) (ab_G mi49 ml50)))) ∧ (¬ ((mi47 40 8) = 0) → (Q (some (.int (mi47 40 8))) (ab_G mi47 ml48))))))))) ∧ (¬ ((mi43 40 8) = 0) → ((((mi43 40 8) = 0) → (∃ (mi51 : Nat → Nat → Int32) (ml52 : Nat → Nat → Int64), call 177 [.ref 40, .int x1, .int 3, .int (-1)] (ab_G mi43 ml44) none (ab_G mi51 ml52) ∧ (Q (some (.int (mi51 40 8))) (ab_G mi51 ml52)))) ∧ (¬ ((mi43 40 8) = 0) → (Q (some (.int (mi43 40 8))) (ab_G mi43 ml44)))))))) ∧ (¬ ((mi15 40 8) = 0) → (∃ (mi53 : Nat → Nat → Int32) (ml54 : Nat → Nat → Int64), call 169 [.ref 40] (ab_G (ab_ui mi15 40 7 ((mi15 40 7) + 1)) ml16) none (ab_G mi53 ml54) ∧ ((((mi53 40 8) = 0) → (vp_in (mi53 40 7) 1002 ∧ ((((mi53 42 ((mi53 40 7)).toNatClampNeg) = 0) → ((((mi53 40 8) = 0) → (∃ (mi55 : Nat → Nat → Int32) (ml56 : Nat → Nat → Int64), call 177 [.ref 40, .int x1, .int 3, .int (-1)] (ab_G mi53 ml54) none (ab_G mi55 ml56) ∧ (Q (some (.int (mi55 40 8))) (ab_G mi55 ml56)))) ∧ (¬ ((mi53 40 8) = 0) → (Q (some (.int (mi53 40 8))) (ab_G mi53 ml54))))) ∧ (¬ ((mi53 42 ((mi53 40 7)).toNatClampNeg) = 0) → (∃ (mi57 : Nat → Nat → Int32) (ml58 : Nat → Nat → Int64), call 153 [.ref 40, .int 1] (ab_G mi53 ml54) none (ab_G mi57 ml58) ∧ ((((mi57 40 8) = 0) → (∃ (mi59 : Nat → Nat → Int32) (ml60 : Nat → Nat → Int64), call 177 [.ref 40, .int x1, .int 3, .int (-1)] (ab_G mi57 ml58) none (ab_G mi59 ml60) ∧ (Q (some (.int (mi59 40 8))) (ab_G mi59 ml60)))) ∧ (¬ ((mi57 40 8) = 0) → (Q (some (.int (mi57 40 8))) (ab_G mi57 ml58))))))))) ∧ (¬ ((mi53 40 8) = 0) → ((((mi53 40 8) = 0) → (∃ (mi61 : Nat → Nat → Int32) (ml62 : Nat → Nat → Int64), call 177 [.ref 40, .int x1, .int 3, .int (-1)] (ab_G mi53 ml54) none (ab_G mi61 ml62) ∧ (Q (some (.int (mi61 40 8))) (ab_G mi61 ml62)))) ∧ (¬ ((mi53 40 8) = 0) → (Q (some (.int (mi53 40 8))) (ab_G mi53 ml54))))))))))))) ∧ (¬ (r14 = 0) → ((((mi12 40 8) = 0) → (∃ (r65 : Int32) (mi63 : Nat → Nat → Int32) (ml64 : Nat → Nat → Int64), call 176 [.ref 40] (ab_G (ab_ui mi12 40 7 ((mi12 40 7) + 1)) ml13) (some (.int r65)) (ab_G mi63 ml64) ∧ (∃ (mi66 : Nat → Nat → Int32) (ml67 : Nat → Nat → Int64), call 159 [.ref 40, .int 13] (ab_G mi63 ml64) none (ab_G mi66 ml67) ∧ (∃ (mi68 : Nat → Nat → Int32) (ml69 : Nat → Nat → Int64), call 169 [.ref 40] (ab_G mi66 ml67) none (ab_G mi68 ml69) ∧ ((((mi68 40 8) = 0) → (vp_in (mi68 40 7) 1002 ∧ ((((mi68 42 ((mi68 40 7)).toNatClampNeg) = 0) → ((((mi68 40 8) = 0) → (∃ (mi70 : Nat → Nat → Int32) (ml71 : Nat → Nat → Int64), call 177 [.ref 40, .int x1, .int 2, .int r65] (ab_G mi68 ml69) none (ab_G mi70 ml71) ∧ (Q (some (.int (mi70 40 8))) (ab_G mi70 ml71)))) ∧ (¬ ((mi68 40 8) = 0) → (Q (some (.int (mi68 40 8))) (ab_G mi68 ml69))))) ∧ (¬ ((mi68 42 ((mi68 40 7)).toNatClampNeg) = 0) → (∃ (mi72 : Nat → Nat → Int32) (ml73 : Nat → Nat → Int64), call 153 [.ref 40, .int 1] (ab_G mi68 ml69) none (ab_G mi72 ml73) ∧ ((((mi72 40 8) = 0) → (∃ (mi74 : Nat → Nat → Int32) (ml75 : Nat → Nat → Int64), call 177 [.ref 40, .int x1, .int 2, .int r65] (ab_G mi72 ml73) none (ab_G mi74 ml75) ∧ (Q (some (.int (mi74 40 8))) (ab_G mi74 ml75)))) ∧ (¬ ((mi72 40 8) = 0) → (Q (some (.int (mi72 40 8))) (ab_G mi72 ml73))))))))) ∧ (¬ ((mi68 40 8) = 0) → ((((mi68 40 8) = 0) → (∃ (mi76 : Nat → Nat → Int32) (ml77 : Nat → Nat → Int64), call 177 [.ref 40, .int x1, .int 2, .int r65] (ab_G mi68 ml69) none (ab_G mi76 ml77) ∧ (Q (some (.int (mi76 40 8))) (ab_G mi76 ml77)))) ∧ (¬ ((mi68 40 8) = 0) → (Q (some (.int (mi68 40 8))) (ab_G mi68 ml69)))))))))) ∧ (¬ ((mi12 40 8) = 0) → (∃ (mi78 : Nat → Nat → Int32) (ml79 : Nat → Nat → Int64), call 159 [.ref 40, .int 13] (ab_G (ab_ui mi12 40 7 ((mi12 40 7) + 1)) ml13) none (ab_G mi78 ml79) ∧ (∃ (mi80 : Nat → Nat → Int32) (ml81 : Nat → Nat → Int64), call 169 [.ref 40] (ab_G mi78 ml79) none (ab_G mi80 ml81) ∧ ((((mi80 40 8) = 0) → (vp_in (mi80 40 7) 1002 ∧ ((((mi80 42 ((mi80 40 7)).toNatClampNeg) = 0) → ((((mi80 40 8) = 0) → (∃ (mi82 : Nat → Nat → Int32) (ml83 : Nat → Nat → Int64), call 177 [.ref 40, .int x1, .int 2, .int (-1)] (ab_G mi80 ml81) none (ab_G mi82 ml83) ∧ (Q (some (.int (mi82 40 8))) (ab_G mi82 ml83)))) ∧ (¬ ((mi80 40 8) = 0) → (Q (some (.int (mi80 40 8))) (ab_G mi80 ml81))))) ∧ (¬ ((mi80 42 ((mi80 40 7)).toNatClampNeg) = 0) → (∃ (mi84 : Nat → Nat → Int32) (ml85 : Nat → Nat → Int64), call 153 [.ref 40, .int 1] (ab_G mi80 ml81) none (ab_G mi84 ml85) ∧ ((((mi84 40 8) = 0) → (∃ (mi86 : Nat → Nat → Int32) (ml87 : Nat → Nat → Int64), call 177 [.ref 40, .int x1, .int 2, .int (-1)] (ab_G mi84 ml85) none (ab_G mi86 ml87) ∧ (Q (some (.int (mi86 40 8))) (ab_G mi86 ml87)))) ∧ (¬ ((mi84 40 8) = 0) → (Q (some (.int (mi84 40 8))) (ab_G mi84 ml85))))))))) ∧ (¬ ((mi80 40 8) = 0) → ((((mi80 40 8) = 0) → (∃ (mi88 : Nat → Nat → Int32) (ml89 : Nat → Nat → Int64), call 177 [.ref 40, .int x1, .int 2, .int (-1)] (ab_G mi80 ml81) none (ab_G mi88 ml89) ∧ (Q (some (.int (mi88 40 8))) (ab_G mi88 ml89)))) ∧ (¬ ((mi80 40 8) = 0) → (Q (some (.int (mi80 40 8))) (ab_G mi80 ml81)))))))))))))) ∧ (¬ (r11 = 0) → ((((mi9 40 8) = 0) → (∃ (r92 : Int32) (mi90 : Nat → Nat → Int32) (ml91 : Nat → Nat → Int64), call 176 [.ref 40] (ab_G (ab_ui mi9 40 7 ((mi9 40 7) + 1)) ml10) (some (.int r92)) (ab_G mi90 ml91) ∧ (∃ (mi93 : Nat → Nat → Int32) (ml94 : Nat → Nat → Int64), call 156 [.ref 40, .int 59] (ab_G mi90 ml91) none (ab_G mi93 ml94) ∧ ((((mi93 40 8) = 0) → (vp_in (mi93 40 7) 1002 ∧ ((((mi93 42 ((mi93 40 7)).toNatClampNeg) = 0) → ((((mi93 40 8) = 0) → (∃ (mi95 : Nat → Nat → Int32) (ml96 : Nat → Nat → Int64), call 177 [.ref 40, .int x1, .int 1, .int r92] (ab_G mi93 ml94) none (ab_G mi95 ml96) ∧ (Q (some (.int (mi95 40 8))) (ab_G mi95 ml96)))) ∧ (¬ ((mi93 40 8) = 0) → (Q (some (.int (mi93 40 8))) (ab_G mi93 ml94))))) ∧ (¬ ((mi93 42 ((mi93 40 7)).toNatClampNeg) = 0) → (∃ (mi97 : Nat → Nat → Int32) (ml98 : Nat → Nat → Int64), call 153 [.ref 40, .int 1] (ab_G mi93 ml94) none (ab_G mi97 ml98) ∧ ((((mi97 40 8) = 0) → (∃ (mi99 : Nat → Nat → Int32) (ml100 : Nat → Nat → Int64), call 177 [.ref 40, .int x1, .int 1, .int r92] (ab_G mi97 ml98) none (ab_G mi99 ml100) ∧ (Q (some (.int (mi99 40 8))) (ab_G mi99 ml100)))) ∧ (¬ ((mi97 40 8) = 0) → (Q (some (.int (mi97 40 8))) (ab_G mi97 ml98))))))))) ∧ (¬ ((mi93 40 8) = 0) → ((((mi93 40 8) = 0) → (∃ (mi101 : Nat → Nat → Int32) (ml102 : Nat → Nat → Int64), call 177 [.ref 40, .int x1, .int 1, .int r92] (ab_G mi93 ml94) none (ab_G mi101 ml102) ∧ (Q (some (.int (mi101 40 8))) (ab_G mi101 ml102)))) ∧ (¬ ((mi93 40 8) = 0) → (Q (some (.int (mi93 40 8))) (ab_G mi93 ml94))))))))) ∧ (¬ ((mi9 40 8) = 0) → (∃ (mi103 : Nat → Nat → Int32) (ml104 : Nat → Nat → Int64), call 156 [.ref 40, .int 59] (ab_G (ab_ui mi9 40 7 ((mi9 40 7) + 1)) ml10) none (ab_G mi103 ml104) ∧ ((((mi103 40 8) = 0) → (vp_in (mi103 40 7) 1002 ∧ ((((mi103 42 ((mi103 40 7)).toNatClampNeg) = 0) → ((((mi103 40 8) = 0) → (∃ (mi105 : Nat → Nat → Int32) (ml106 : Nat → Nat → Int64), call 177 [.ref 40, .int x1, .int 1, .int (-1)] (ab_G mi103 ml104) none (ab_G mi105 ml106) ∧ (Q (some (.int (mi105 40 8))) (ab_G mi105 ml106)))) ∧ (¬ ((mi103 40 8) = 0) → (Q (some (.int (mi103 40 8))) (ab_G mi103 ml104))))) ∧ (¬ ((mi103 42 ((mi103 40 7)).toNatClampNeg) = 0) → (∃ (mi107 : Nat → Nat → Int32) (ml108 : Nat → Nat → Int64), call 153 [.ref 40, .int 1] (ab_G mi103 ml104) none (ab_G mi107 ml108) ∧ ((((mi107 40 8) = 0) → (∃ (mi109 : Nat → Nat → Int32) (ml110 : Nat → Nat → Int64), call 177 [.ref 40, .int x1, .int 1, .int (-1)] (ab_G mi107 ml108) none (ab_G mi109 ml110) ∧ (Q (some (.int (mi109 40 8))) (ab_G mi109 ml110)))) ∧ (¬ ((mi107 40 8) = 0) → (Q (some (.int (mi107 40 8))) (ab_G mi107 ml108))))))))) ∧ (¬ ((mi103 40 8) = 0) → ((((mi103 40 8) = 0) → (∃ (mi111 : Nat → Nat → Int32) (ml112 : Nat → Nat → Int64), call 177 [.ref 40, .int x1, .int 1, .int (-1)] (ab_G mi103 ml104) none (ab_G mi111 ml112) ∧ (Q (some (.int (mi111 40 8))) (ab_G mi111 ml112)))) ∧ (¬ ((mi103 40 8) = 0) → (Q (some (.int (mi103 40 8))) (ab_G mi103 ml104))))))))))))) ∧ (¬ (r8 = 0) → ((((mi6 40 8) = 0) → (∃ (r115 : Int32) (mi113 : Nat → Nat → Int32) (ml114 : Nat → Nat → Int64), call 176 [.ref 40] (ab_G (ab_ui mi6 40 7 ((mi6 40 7) + 1)) ml7) (some (.int r115)) (ab_G mi113 ml114) ∧ (∃ (mi116 : Nat → Nat → Int32) (ml117 : Nat → Nat → Int64), call 156 [.ref 40, .int 59] (ab_G mi113 ml114) none (ab_G mi116 ml117) ∧ ((((mi116 40 8) = 0) → (vp_in (mi116 40 7) 1002 ∧ ((((mi116 42 ((mi116 40 7)).toNatClampNeg) = 0) → ((((mi116 40 8) = 0) → (∃ (mi118 : Nat → Nat → Int32) (ml119 : Nat → Nat → Int64), call 177 [.ref 40, .int x1, .int 0, .int r115] (ab_G mi116 ml117) none (ab_G mi118 ml119) ∧ (Q (some (.int (mi118 40 8))) (ab_G mi118 ml119)))) ∧ (¬ ((mi116 40 8) = 0) → (Q (some (.int (mi116 40 8))) (ab_G mi116 ml117))))) ∧ (¬ ((mi116 42 ((mi116 40 7)).toNatClampNeg) = 0) → (∃ (mi120 : Nat → Nat → Int32) (ml121 : Nat → Nat → Int64), call 153 [.ref 40, .int 1] (ab_G mi116 ml117) none (ab_G mi120 ml121) ∧ ((((mi120 40 8) = 0) → (∃ (mi122 : Nat → Nat → Int32) (ml123 : Nat → Nat → Int64), call 177 [.ref 40, .int x1, .int 0, .int r115] (ab_G mi120 ml121) none (ab_G mi122 ml123) ∧ (Q (some (.int (mi122 40 8))) (ab_G mi122 ml123)))) ∧ (¬ ((mi120 40 8) = 0) → (Q (some (.int (mi120 40 8))) (ab_G mi120 ml121))))))))) ∧ (¬ ((mi116 40 8) = 0) → ((((mi116 40 8) = 0) → (∃ (mi124 : Nat → Nat → Int32) (ml125 : Nat → Nat → Int64), call 177 [.ref 40, .int x1, .int 0, .int r115] (ab_G mi116 ml117) none (ab_G mi124 ml125) ∧ (Q (some (.int (mi124 40 8))) (ab_G mi124 ml125)))) ∧ (¬ ((mi116 40 8) = 0) → (Q (some (.int (mi116 40 8))) (ab_G mi116 ml117))))))))) ∧ (¬ ((mi6 40 8) = 0) → (∃ (mi126 : Nat → Nat → Int32) (ml127 : Nat → Nat → Int64), call 156 [.ref 40, .int 59] (ab_G (ab_ui mi6 40 7 ((mi6 40 7) + 1)) ml7) none (ab_G mi126 ml127) ∧ ((((mi126 40 8) = 0) → (vp_in (mi126 40 7) 1002 ∧ ((((mi126 42 ((mi126 40 7)).toNatClampNeg) = 0) → ((((mi126 40 8) = 0) → (∃ (mi128 : Nat → Nat → Int32) (ml129 : Nat → Nat → Int64), call 177 [.ref 40, .int x1, .int 0, .int (-1)] (ab_G mi126 ml127) none (ab_G mi128 ml129) ∧ (Q (some (.int (mi128 40 8))) (ab_G mi128 ml129)))) ∧ (¬ ((mi126 40 8) = 0) → (Q (some (.int (mi126 40 8))) (ab_G mi126 ml127))))) ∧ (¬ ((mi126 42 ((mi126 40 7)).toNatClampNeg) = 0) → (∃ (mi130 : Nat → Nat → Int32) (ml131 : Nat → Nat → Int64), call 153 [.ref 40, .int 1] (ab_G mi126 ml127) none (ab_G mi130 ml131) ∧ ((((mi130 40 8) = 0) → (∃ (mi132 : Nat → Nat → Int32) (ml133 : Nat → Nat → Int64), call 177 [.ref 40, .int x1, .int 0, .int (-1)] (ab_G mi130 ml131) none (ab_G mi132 ml133) ∧ (Q (some (.int (mi132 40 8))) (ab_G mi132 ml133)))) ∧ (¬ ((mi130 40 8) = 0) → (Q (some (.int (mi130 40 8))) (ab_G mi130 ml131))))))))) ∧ (¬ ((mi126 40 8) = 0) → ((((mi126 40 8) = 0) → (∃ (mi134 : Nat → Nat → Int32) (ml135 : Nat → Nat → Int64), call 177 [.ref 40, .int x1, .int 0, .int (-1)] (ab_G mi126 ml127) none (ab_G mi134 ml135) ∧ (Q (some (.int (mi134 40 8))) (ab_G mi134 ml135)))) ∧ (¬ ((mi126 40 8) = 0) → (Q (some (.int (mi126 40 8))) (ab_G mi126 ml127)))))))))))))))))) :
    ab_W call ro 0 0 (ab_lk2 pl_X12_wish) Q (0, [some (.ref 40), some (.int x1), none, none], [], 0, 0, ab_G mi ml) := by
  obtain ⟨r3, mi1, ml2, hc, h⟩ := h
  refine ab_wc 7 (c := 178) (as := [.int x1, .int 0, .int 99]) (pc := 12) (ll := [some (.ref 40), some (.int x1), none, none]) (st := []) (c1 := 0) (s1 := 0) (g := (ab_G (ab_ui mi 40 0 0) ml)) rfl ⟨trivial, trivial, trivial, trivial, trivial, trivial, trivial⟩ hc ?_
  refine ab_wk 1 (f' := (if r3 = 0 then 24 else 15, [some (.ref 40), some (.int x1), none, none], [], 0, 0, (ab_G mi1 ml2))) rfl ⟨trivial, trivial⟩ ?_
  refine ab_wi (fun c => ?_) (fun c => ?_)
  · have h := h.1 c
    exact ab_wr 5 rfl ⟨trivial, trivial, trivial, trivial, trivial⟩ h
  · have h := h.2 c
    refine ab_wk 4 (f' := (if (mi1 40 20) = 30 then 24 else 31, [some (.ref 40), some (.int x1), none, none], [], 0, 0, (ab_G mi1 ml2))) rfl ⟨trivial, trivial, trivial, trivial, trivial⟩ ?_
    refine ab_wi (fun c => ?_) (fun c => ?_)
    · have h := h.1 c
      exact ab_wr 5 rfl ⟨trivial, trivial, trivial, trivial, trivial⟩ h
    · have h := h.2 c
      obtain ⟨mi4, ml5, hc, h⟩ := h
      refine ab_wc 2 (c := 152) (as := [.ref 40]) (pc := 35) (ll := [some (.ref 40), some (.int x1), none, none]) (st := []) (c1 := 0) (s1 := 0) (g := (ab_G mi1 ml2)) rfl ⟨trivial, trivial⟩ hc ?_
      obtain ⟨r8, mi6, ml7, hc, h⟩ := h
      refine ab_wc 6 (c := 155) (as := [.ref 40, .int 10]) (pc := 46) (ll := [some (.ref 40), some (.int x1), none, none]) (st := []) (c1 := 0) (s1 := 0) (g := (ab_G (ab_ui mi4 40 16 0) ml5)) rfl ⟨trivial, trivial, trivial, trivial, trivial, trivial⟩ hc ?_
      refine ab_wk 1 (f' := (if r8 = 0 then 53 else 49, [some (.ref 40), some (.int x1), none, none], [], 0, 0, (ab_G mi6 ml7))) rfl ⟨trivial, trivial⟩ ?_
      refine ab_wi (fun c => ?_) (fun c => ?_)
      · have h := h.1 c
        obtain ⟨r11, mi9, ml10, hc, h⟩ := h
        refine ab_wc 3 (c := 155) (as := [.ref 40, .int 11]) (pc := 59) (ll := [some (.ref 40), some (.int x1), none, none]) (st := []) (c1 := 0) (s1 := 0) (g := (ab_G mi6 ml7)) rfl ⟨trivial, trivial, trivial⟩ hc ?_
        refine ab_wk 1 (f' := (if r11 = 0 then 66 else 62, [some (.ref 40), some (.int x1), none, none], [], 0, 0, (ab_G mi9 ml10))) rfl ⟨trivial, trivial⟩ ?_
        refine ab_wi (fun c => ?_) (fun c => ?_)
        · have h := h.1 c
          obtain ⟨r14, mi12, ml13, hc, h⟩ := h
          refine ab_wc 3 (c := 155) (as := [.ref 40, .int 12]) (pc := 72) (ll := [some (.ref 40), some (.int x1), none, none]) (st := []) (c1 := 0) (s1 := 0) (g := (ab_G mi9 ml10)) rfl ⟨trivial, trivial, trivial⟩ hc ?_
          refine ab_wk 1 (f' := (if r14 = 0 then 79 else 75, [some (.ref 40), some (.int x1), none, none], [], 0, 0, (ab_G mi12 ml13))) rfl ⟨trivial, trivial⟩ ?_
          refine ab_wi (fun c => ?_) (fun c => ?_)
          · have h := h.1 c
            obtain ⟨r17, mi15, ml16, hc, h⟩ := h
            refine ab_wc 3 (c := 155) (as := [.ref 40, .int 14]) (pc := 85) (ll := [some (.ref 40), some (.int x1), none, none]) (st := []) (c1 := 0) (s1 := 0) (g := (ab_G mi12 ml13)) rfl ⟨trivial, trivial, trivial⟩ hc ?_
            refine ab_wk 1 (f' := (if r17 = 0 then 92 else 88, [some (.ref 40), some (.int x1), none, none], [], 0, 0, (ab_G mi15 ml16))) rfl ⟨trivial, trivial⟩ ?_
            refine ab_wi (fun c => ?_) (fun c => ?_)
            · have h := h.1 c
              refine ab_wk 6 (f' := (if (-1 : Int32) < 0 then 100 else 108, [some (.ref 40), some (.int x1), some (.int (-1)), some (.int (-1))], [], 0, 0, (ab_G mi15 ml16))) rfl ⟨trivial, trivial, trivial, trivial, trivial, trivial, trivial⟩ ?_
              refine ab_wit (c := ((-1 : Int32) < 0)) (by decide) ?_
              obtain ⟨mi18, ml19, hc, h⟩ := h
              refine ab_wc 3 (c := 153) (as := [.ref 40, .int 1]) (pc := 105) (ll := [some (.ref 40), some (.int x1), some (.int (-1)), some (.int (-1))]) (st := []) (c1 := 0) (s1 := 0) (g := (ab_G mi15 ml16)) rfl ⟨trivial, trivial, trivial⟩ hc ?_
              refine ab_wk 4 (f' := (if (mi18 40 8) = 0 then 125 else 135, [some (.ref 40), some (.int x1), some (.int (-1)), some (.int (-1))], [], 0, 0, (ab_G mi18 ml19))) rfl ⟨trivial, trivial, trivial, trivial, trivial⟩ ?_
              refine ab_wi (fun c => ?_) (fun c => ?_)
              · have h := h.1 c
                refine ab_wk 3 (f' := (if (-1 : Int32) = 3 then 135 else 130, [some (.ref 40), some (.int x1), some (.int (-1)), some (.int (-1))], [], 0, 0, (ab_G mi18 ml19))) rfl ⟨trivial, trivial, trivial, trivial⟩ ?_
                refine ab_wif (c := ((-1 : Int32) = 3)) (by decide) ?_
                obtain ⟨r22, mi20, ml21, hc, h⟩ := h
                refine ab_wc 2 (c := 176) (as := [.ref 40]) (pc := 134) (ll := [some (.ref 40), some (.int x1), some (.int (-1)), some (.int (-1))]) (st := []) (c1 := 0) (s1 := 0) (g := (ab_G mi18 ml19)) rfl ⟨trivial, trivial⟩ hc ?_
                refine ab_wk 4 (f' := (if (-1 : Int32) = 2 then 140 else 146, [some (.ref 40), some (.int x1), some (.int (-1)), some (.int r22)], [], 0, 0, (ab_G mi20 ml21))) rfl ⟨trivial, trivial, trivial, trivial, trivial⟩ ?_
                refine ab_wif (c := ((-1 : Int32) = 2)) (by decide) ?_
                refine ab_wk 3 (f' := (if (-1 : Int32) = 2 then 156 else 151, [some (.ref 40), some (.int x1), some (.int (-1)), some (.int r22)], [], 0, 0, (ab_G mi20 ml21))) rfl ⟨trivial, trivial, trivial, trivial⟩ ?_
                refine ab_wif (c := ((-1 : Int32) = 2)) (by decide) ?_
                refine ab_wk 3 (f' := (if (-1 : Int32) = 3 then 156 else 163, [some (.ref 40), some (.int x1), some (.int (-1)), some (.int r22)], [], 0, 0, (ab_G mi20 ml21))) rfl ⟨trivial, trivial, trivial, trivial⟩ ?_
                refine ab_wif (c := ((-1 : Int32) = 3)) (by decide) ?_
                obtain ⟨mi23, ml24, hc, h⟩ := h
                refine ab_wc 3 (c := 156) (as := [.ref 40, .int 59]) (pc := 169) (ll := [some (.ref 40), some (.int x1), some (.int (-1)), some (.int r22)]) (st := []) (c1 := 0) (s1 := 0) (g := (ab_G mi20 ml21)) rfl ⟨trivial, trivial, trivial⟩ hc ?_
                refine ab_wk 3 (f' := (if (mi23 40 8) = 0 then 176 else 193, [some (.ref 40), some (.int x1), some (.int (-1)), some (.int r22)], [], 0, 0, (ab_G mi23 ml24))) rfl ⟨trivial, trivial, trivial, trivial⟩ ?_
                refine ab_wi (fun c => ?_) (fun c => ?_)
                · have h := h.1 c
                  obtain ⟨p0, h⟩ := h
                  refine ab_wk 6 (f' := (if (mi23 42 ((mi23 40 7)).toNatClampNeg) = 0 then 193 else 188, [some (.ref 40), some (.int x1), some (.int (-1)), some (.int r22)], [], 0, 0, (ab_G mi23 ml24))) rfl ⟨trivial, trivial, trivial, trivial, p0, trivial, trivial⟩ ?_
                  refine ab_wi (fun c => ?_) (fun c => ?_)
                  · have h := h.1 c
                    refine ab_wk 3 (f' := (if (mi23 40 8) = 0 then 200 else 207, [some (.ref 40), some (.int x1), some (.int (-1)), some (.int r22)], [], 0, 0, (ab_G mi23 ml24))) rfl ⟨trivial, trivial, trivial, trivial⟩ ?_
                    refine ab_wi (fun c => ?_) (fun c => ?_)
                    · have h := h.1 c
                      obtain ⟨mi25, ml26, hc, h⟩ := h
                      refine ab_wc 5 (c := 177) (as := [.ref 40, .int x1, .int (-1), .int r22]) (pc := 207) (ll := [some (.ref 40), some (.int x1), some (.int (-1)), some (.int r22)]) (st := []) (c1 := 0) (s1 := 0) (g := (ab_G mi23 ml24)) rfl ⟨trivial, trivial, trivial, trivial, trivial⟩ hc ?_
                      exact ab_wr 3 rfl ⟨trivial, trivial, trivial⟩ h
                    · have h := h.2 c
                      exact ab_wr 3 rfl ⟨trivial, trivial, trivial⟩ h
                  · have h := h.2 c
                    obtain ⟨mi27, ml28, hc, h⟩ := h
                    refine ab_wc 3 (c := 153) (as := [.ref 40, .int 1]) (pc := 193) (ll := [some (.ref 40), some (.int x1), some (.int (-1)), some (.int r22)]) (st := []) (c1 := 0) (s1 := 0) (g := (ab_G mi23 ml24)) rfl ⟨trivial, trivial, trivial⟩ hc ?_
                    refine ab_wk 3 (f' := (if (mi27 40 8) = 0 then 200 else 207, [some (.ref 40), some (.int x1), some (.int (-1)), some (.int r22)], [], 0, 0, (ab_G mi27 ml28))) rfl ⟨trivial, trivial, trivial, trivial⟩ ?_
                    refine ab_wi (fun c => ?_) (fun c => ?_)
                    · have h := h.1 c
                      obtain ⟨mi29, ml30, hc, h⟩ := h
                      refine ab_wc 5 (c := 177) (as := [.ref 40, .int x1, .int (-1), .int r22]) (pc := 207) (ll := [some (.ref 40), some (.int x1), some (.int (-1)), some (.int r22)]) (st := []) (c1 := 0) (s1 := 0) (g := (ab_G mi27 ml28)) rfl ⟨trivial, trivial, trivial, trivial, trivial⟩ hc ?_
                      exact ab_wr 3 rfl ⟨trivial, trivial, trivial⟩ h
                    · have h := h.2 c
                      exact ab_wr 3 rfl ⟨trivial, trivial, trivial⟩ h
                · have h := h.2 c
                  refine ab_wk 3 (f' := (if (mi23 40 8) = 0 then 200 else 207, [some (.ref 40), some (.int x1), some (.int (-1)), some (.int r22)], [], 0, 0, (ab_G mi23 ml24))) rfl ⟨trivial, trivial, trivial, trivial⟩ ?_
                  refine ab_wi (fun c => ?_) (fun c => ?_)
                  · have h := h.1 c
                    obtain ⟨mi31, ml32, hc, h⟩ := h
                    refine ab_wc 5 (c := 177) (as := [.ref 40, .int x1, .int (-1), .int r22]) (pc := 207) (ll := [some (.ref 40), some (.int x1), some (.int (-1)), some (.int r22)]) (st := []) (c1 := 0) (s1 := 0) (g := (ab_G mi23 ml24)) rfl ⟨trivial, trivial, trivial, trivial, trivial⟩ hc ?_
                    exact ab_wr 3 rfl ⟨trivial, trivial, trivial⟩ h
                  · have h := h.2 c
                    exact ab_wr 3 rfl ⟨trivial, trivial, trivial⟩ h
              · have h := h.2 c
                refine ab_wk 3 (f' := (if (-1 : Int32) = 2 then 140 else 146, [some (.ref 40), some (.int x1), some (.int (-1)), some (.int (-1))], [], 0, 0, (ab_G mi18 ml19))) rfl ⟨trivial, trivial, trivial, trivial⟩ ?_
                refine ab_wif (c := ((-1 : Int32) = 2)) (by decide) ?_
                refine ab_wk 3 (f' := (if (-1 : Int32) = 2 then 156 else 151, [some (.ref 40), some (.int x1), some (.int (-1)), some (.int (-1))], [], 0, 0, (ab_G mi18 ml19))) rfl ⟨trivial, trivial, trivial, trivial⟩ ?_
                refine ab_wif (c := ((-1 : Int32) = 2)) (by decide) ?_
                refine ab_wk 3 (f' := (if (-1 : Int32) = 3 then 156 else 163, [some (.ref 40), some (.int x1), some (.int (-1)), some (.int (-1))], [], 0, 0, (ab_G mi18 ml19))) rfl ⟨trivial, trivial, trivial, trivial⟩ ?_
                refine ab_wif (c := ((-1 : Int32) = 3)) (by decide) ?_
                obtain ⟨mi33, ml34, hc, h⟩ := h
                refine ab_wc 3 (c := 156) (as := [.ref 40, .int 59]) (pc := 169) (ll := [some (.ref 40), some (.int x1), some (.int (-1)), some (.int (-1))]) (st := []) (c1 := 0) (s1 := 0) (g := (ab_G mi18 ml19)) rfl ⟨trivial, trivial, trivial⟩ hc ?_
                refine ab_wk 3 (f' := (if (mi33 40 8) = 0 then 176 else 193, [some (.ref 40), some (.int x1), some (.int (-1)), some (.int (-1))], [], 0, 0, (ab_G mi33 ml34))) rfl ⟨trivial, trivial, trivial, trivial⟩ ?_
                refine ab_wi (fun c => ?_) (fun c => ?_)
                · have h := h.1 c
                  obtain ⟨p0, h⟩ := h
                  refine ab_wk 6 (f' := (if (mi33 42 ((mi33 40 7)).toNatClampNeg) = 0 then 193 else 188, [some (.ref 40), some (.int x1), some (.int (-1)), some (.int (-1))], [], 0, 0, (ab_G mi33 ml34))) rfl ⟨trivial, trivial, trivial, trivial, p0, trivial, trivial⟩ ?_
                  refine ab_wi (fun c => ?_) (fun c => ?_)
                  · have h := h.1 c
                    refine ab_wk 3 (f' := (if (mi33 40 8) = 0 then 200 else 207, [some (.ref 40), some (.int x1), some (.int (-1)), some (.int (-1))], [], 0, 0, (ab_G mi33 ml34))) rfl ⟨trivial, trivial, trivial, trivial⟩ ?_
                    refine ab_wi (fun c => ?_) (fun c => ?_)
                    · have h := h.1 c
                      obtain ⟨mi35, ml36, hc, h⟩ := h
                      refine ab_wc 5 (c := 177) (as := [.ref 40, .int x1, .int (-1), .int (-1)]) (pc := 207) (ll := [some (.ref 40), some (.int x1), some (.int (-1)), some (.int (-1))]) (st := []) (c1 := 0) (s1 := 0) (g := (ab_G mi33 ml34)) rfl ⟨trivial, trivial, trivial, trivial, trivial⟩ hc ?_
                      exact ab_wr 3 rfl ⟨trivial, trivial, trivial⟩ h
                    · have h := h.2 c
                      exact ab_wr 3 rfl ⟨trivial, trivial, trivial⟩ h
                  · have h := h.2 c
                    obtain ⟨mi37, ml38, hc, h⟩ := h
                    refine ab_wc 3 (c := 153) (as := [.ref 40, .int 1]) (pc := 193) (ll := [some (.ref 40), some (.int x1), some (.int (-1)), some (.int (-1))]) (st := []) (c1 := 0) (s1 := 0) (g := (ab_G mi33 ml34)) rfl ⟨trivial, trivial, trivial⟩ hc ?_
                    refine ab_wk 3 (f' := (if (mi37 40 8) = 0 then 200 else 207, [some (.ref 40), some (.int x1), some (.int (-1)), some (.int (-1))], [], 0, 0, (ab_G mi37 ml38))) rfl ⟨trivial, trivial, trivial, trivial⟩ ?_
                    refine ab_wi (fun c => ?_) (fun c => ?_)
                    · have h := h.1 c
                      obtain ⟨mi39, ml40, hc, h⟩ := h
                      refine ab_wc 5 (c := 177) (as := [.ref 40, .int x1, .int (-1), .int (-1)]) (pc := 207) (ll := [some (.ref 40), some (.int x1), some (.int (-1)), some (.int (-1))]) (st := []) (c1 := 0) (s1 := 0) (g := (ab_G mi37 ml38)) rfl ⟨trivial, trivial, trivial, trivial, trivial⟩ hc ?_
                      exact ab_wr 3 rfl ⟨trivial, trivial, trivial⟩ h
                    · have h := h.2 c
                      exact ab_wr 3 rfl ⟨trivial, trivial, trivial⟩ h
                · have h := h.2 c
                  refine ab_wk 3 (f' := (if (mi33 40 8) = 0 then 200 else 207, [some (.ref 40), some (.int x1), some (.int (-1)), some (.int (-1))], [], 0, 0, (ab_G mi33 ml34))) rfl ⟨trivial, trivial, trivial, trivial⟩ ?_
                  refine ab_wi (fun c => ?_) (fun c => ?_)
                  · have h := h.1 c
                    obtain ⟨mi41, ml42, hc, h⟩ := h
                    refine ab_wc 5 (c := 177) (as := [.ref 40, .int x1, .int (-1), .int (-1)]) (pc := 207) (ll := [some (.ref 40), some (.int x1), some (.int (-1)), some (.int (-1))]) (st := []) (c1 := 0) (s1 := 0) (g := (ab_G mi33 ml34)) rfl ⟨trivial, trivial, trivial, trivial, trivial⟩ hc ?_
                    exact ab_wr 3 rfl ⟨trivial, trivial, trivial⟩ h
                  · have h := h.2 c
                    exact ab_wr 3 rfl ⟨trivial, trivial, trivial⟩ h
            · have h := h.2 c
              refine ab_wk 7 (f' := (if (3 : Int32) < 0 then 100 else 108, [some (.ref 40), some (.int x1), some (.int 3), some (.int (-1))], [], 0, 0, (ab_G mi15 ml16))) rfl ⟨trivial, trivial, trivial, trivial, trivial, trivial, trivial, trivial⟩ ?_
              refine ab_wif (c := ((3 : Int32) < 0)) (by decide) ?_
              refine ab_wk 9 (f' := (if (mi15 40 8) = 0 then 125 else 135, [some (.ref 40), some (.int x1), some (.int 3), some (.int (-1))], [], 0, 0, (ab_G (ab_ui mi15 40 7 ((mi15 40 7) + 1)) ml16))) rfl ⟨trivial, trivial, trivial, trivial, trivial, trivial, trivial, trivial, trivial, trivial⟩ ?_
              refine ab_wi (fun c => ?_) (fun c => ?_)
              · have h := h.1 c
                refine ab_wk 3 (f' := (if (3 : Int32) = 3 then 135 else 130, [some (.ref 40), some (.int x1), some (.int 3), some (.int (-1))], [], 0, 0, (ab_G (ab_ui mi15 40 7 ((mi15 40 7) + 1)) ml16))) rfl ⟨trivial, trivial, trivial, trivial⟩ ?_
                refine ab_wit (c := ((3 : Int32) = 3)) (by decide) ?_
                refine ab_wk 3 (f' := (if (3 : Int32) = 2 then 140 else 146, [some (.ref 40), some (.int x1), some (.int 3), some (.int (-1))], [], 0, 0, (ab_G (ab_ui mi15 40 7 ((mi15 40 7) + 1)) ml16))) rfl ⟨trivial, trivial, trivial, trivial⟩ ?_
                refine ab_wif (c := ((3 : Int32) = 2)) (by decide) ?_
                refine ab_wk 3 (f' := (if (3 : Int32) = 2 then 156 else 151, [some (.ref 40), some (.int x1), some (.int 3), some (.int (-1))], [], 0, 0, (ab_G (ab_ui mi15 40 7 ((mi15 40 7) + 1)) ml16))) rfl ⟨trivial, trivial, trivial, trivial⟩ ?_
                refine ab_wif (c := ((3 : Int32) = 2)) (by decide) ?_
                refine ab_wk 3 (f' := (if (3 : Int32) = 3 then 156 else 163, [some (.ref 40), some (.int x1), some (.int 3), some (.int (-1))], [], 0, 0, (ab_G (ab_ui mi15 40 7 ((mi15 40 7) + 1)) ml16))) rfl ⟨trivial, trivial, trivial, trivial⟩ ?_
                refine ab_wit (c := ((3 : Int32) = 3)) (by decide) ?_
                obtain ⟨mi43, ml44, hc, h⟩ := h
                refine ab_wc 2 (c := 169) (as := [.ref 40]) (pc := 160) (ll := [some (.ref 40), some (.int x1), some (.int 3), some (.int (-1))]) (st := []) (c1 := 0) (s1 := 0) (g := (ab_G (ab_ui mi15 40 7 ((mi15 40 7) + 1)) ml16)) rfl ⟨trivial, trivial⟩ hc ?_
                refine ab_wk 4 (f' := (if (mi43 40 8) = 0 then 176 else 193, [some (.ref 40), some (.int x1), some (.int 3), some (.int (-1))], [], 0, 0, (ab_G mi43 ml44))) rfl ⟨trivial, trivial, trivial, trivial, trivial⟩ ?_
                refine ab_wi (fun c => ?_) (fun c => ?_)
                · have h := h.1 c
                  obtain ⟨p0, h⟩ := h
                  refine ab_wk 6 (f' := (if (mi43 42 ((mi43 40 7)).toNatClampNeg) = 0 then 193 else 188, [some (.ref 40), some (.int x1), some (.int 3), some (.int (-1))], [], 0, 0, (ab_G mi43 ml44))) rfl ⟨trivial, trivial, trivial, trivial, p0, trivial, trivial⟩ ?_
                  refine ab_wi (fun c => ?_) (fun c => ?_)
                  · have h := h.1 c
                    refine ab_wk 3 (f' := (if (mi43 40 8) = 0 then 200 else 207, [some (.ref 40), some (.int x1), some (.int 3), some (.int (-1))], [], 0, 0, (ab_G mi43 ml44))) rfl ⟨trivial, trivial, trivial, trivial⟩ ?_
                    refine ab_wi (fun c => ?_) (fun c => ?_)
                    · have h := h.1 c
                      obtain ⟨mi45, ml46, hc, h⟩ := h
                      refine ab_wc 5 (c := 177) (as := [.ref 40, .int x1, .int 3, .int (-1)]) (pc := 207) (ll := [some (.ref 40), some (.int x1), some (.int 3), some (.int (-1))]) (st := []) (c1 := 0) (s1 := 0) (g := (ab_G mi43 ml44)) rfl ⟨trivial, trivial, trivial, trivial, trivial⟩ hc ?_
                      exact ab_wr 3 rfl ⟨trivial, trivial, trivial⟩ h
                    · have h := h.2 c
                      exact ab_wr 3 rfl ⟨trivial, trivial, trivial⟩ h
                  · have h := h.2 c
                    obtain ⟨mi47, ml48, hc, h⟩ := h
                    refine ab_wc 3 (c := 153) (as := [.ref 40, .int 1]) (pc := 193) (ll := [some (.ref 40), some (.int x1), some (.int 3), some (.int (-1))]) (st := []) (c1 := 0) (s1 := 0) (g := (ab_G mi43 ml44)) rfl ⟨trivial, trivial, trivial⟩ hc ?_
                    refine ab_wk 3 (f' := (if (mi47 40 8) = 0 then 200 else 207, [some (.ref 40), some (.int x1), some (.int 3), some (.int (-1))], [], 0, 0, (ab_G mi47 ml48))) rfl ⟨trivial, trivial, trivial, trivial⟩ ?_
                    refine ab_wi (fun c => ?_) (fun c => ?_)
                    · have h := h.1 c
                      obtain ⟨mi49, ml50, hc, h⟩ := h
                      refine ab_wc 5 (c := 177) (as := [.ref 40, .int x1, .int 3, .int (-1)]) (pc := 207) (ll := [some (.ref 40), some (.int x1), some (.int 3), some (.int (-1))]) (st := []) (c1 := 0) (s1 := 0) (g := (ab_G mi47 ml48)) rfl ⟨trivial, trivial, trivial, trivial, trivial⟩ hc ?_
                      exact ab_wr 3 rfl ⟨trivial, trivial, trivial⟩ h
                    · have h := h.2 c
                      exact ab_wr 3 rfl ⟨trivial, trivial, trivial⟩ h
                · have h := h.2 c
                  refine ab_wk 3 (f' := (if (mi43 40 8) = 0 then 200 else 207, [some (.ref 40), some (.int x1), some (.int 3), some (.int (-1))], [], 0, 0, (ab_G mi43 ml44))) rfl ⟨trivial, trivial, trivial, trivial⟩ ?_
                  refine ab_wi (fun c => ?_) (fun c => ?_)
                  · have h := h.1 c
                    obtain ⟨mi51, ml52, hc, h⟩ := h
                    refine ab_wc 5 (c := 177) (as := [.ref 40, .int x1, .int 3, .int (-1)]) (pc := 207) (ll := [some (.ref 40), some (.int x1), some (.int 3), some (.int (-1))]) (st := []) (c1 := 0) (s1 := 0) (g := (ab_G mi43 ml44)) rfl ⟨trivial, trivial, trivial, trivial, trivial⟩ hc ?_
                    exact ab_wr 3 rfl ⟨trivial, trivial, trivial⟩ h
                  · have h := h.2 c
                    exact ab_wr 3 rfl ⟨trivial, trivial, trivial⟩ h
              · have h := h.2 c
                refine ab_wk 3 (f' := (if (3 : Int32) = 2 then 140 else 146, [some (.ref 40), some (.int x1), some (.int 3), some (.int (-1))], [], 0, 0, (ab_G (ab_ui mi15 40 7 ((mi15 40 7) + 1)) ml16))) rfl ⟨trivial, trivial, trivial, trivial⟩ ?_
                refine ab_wif (c := ((3 : Int32) = 2)) (by decide) ?_
                refine ab_wk 3 (f' := (if (3 : Int32) = 2 then 156 else 151, [some (.ref 40), some (.int x1), some (.int 3), some (.int (-1))], [], 0, 0, (ab_G (ab_ui mi15 40 7 ((mi15 40 7) + 1)) ml16))) rfl ⟨trivial, trivial, trivial, trivial⟩ ?_
                refine ab_wif (c := ((3 : Int32) = 2)) (by decide) ?_
                refine ab_wk 3 (f' := (if (3 : Int32) = 3 then 156 else 163, [some (.ref 40), some (.int x1), some (.int 3), some (.int (-1))], [], 0, 0, (ab_G (ab_ui mi15 40 7 ((mi15 40 7) + 1)) ml16))) rfl ⟨trivial, trivial, trivial, trivial⟩ ?_
                refine ab_wit (c := ((3 : Int32) = 3)) (by decide) ?_
                obtain ⟨mi53, ml54, hc, h⟩ := h
                refine ab_wc 2 (c := 169) (as := [.ref 40]) (pc := 160) (ll := [some (.ref 40), some (.int x1), some (.int 3), some (.int (-1))]) (st := []) (c1 := 0) (s1 := 0) (g := (ab_G (ab_ui mi15 40 7 ((mi15 40 7) + 1)) ml16)) rfl ⟨trivial, trivial⟩ hc ?_
                refine ab_wk 4 (f' := (if (mi53 40 8) = 0 then 176 else 193, [some (.ref 40), some (.int x1), some (.int 3), some (.int (-1))], [], 0, 0, (ab_G mi53 ml54))) rfl ⟨trivial, trivial, trivial, trivial, trivial⟩ ?_
                refine ab_wi (fun c => ?_) (fun c => ?_)
                · have h := h.1 c
                  obtain ⟨p0, h⟩ := h
                  refine ab_wk 6 (f' := (if (mi53 42 ((mi53 40 7)).toNatClampNeg) = 0 then 193 else 188, [some (.ref 40), some (.int x1), some (.int 3), some (.int (-1))], [], 0, 0, (ab_G mi53 ml54))) rfl ⟨trivial, trivial, trivial, trivial, p0, trivial, trivial⟩ ?_
                  refine ab_wi (fun c => ?_) (fun c => ?_)
                  · have h := h.1 c
                    refine ab_wk 3 (f' := (if (mi53 40 8) = 0 then 200 else 207, [some (.ref 40), some (.int x1), some (.int 3), some (.int (-1))], [], 0, 0, (ab_G mi53 ml54))) rfl ⟨trivial, trivial, trivial, trivial⟩ ?_
                    refine ab_wi (fun c => ?_) (fun c => ?_)
                    · have h := h.1 c
                      obtain ⟨mi55, ml56, hc, h⟩ := h
                      refine ab_wc 5 (c := 177) (as := [.ref 40, .int x1, .int 3, .int (-1)]) (pc := 207) (ll := [some (.ref 40), some (.int x1), some (.int 3), some (.int (-1))]) (st := []) (c1 := 0) (s1 := 0) (g := (ab_G mi53 ml54)) rfl ⟨trivial, trivial, trivial, trivial, trivial⟩ hc ?_
                      exact ab_wr 3 rfl ⟨trivial, trivial, trivial⟩ h
                    · have h := h.2 c
                      exact ab_wr 3 rfl ⟨trivial, trivial, trivial⟩ h
                  · have h := h.2 c
                    obtain ⟨mi57, ml58, hc, h⟩ := h
                    refine ab_wc 3 (c := 153) (as := [.ref 40, .int 1]) (pc := 193) (ll := [some (.ref 40), some (.int x1), some (.int 3), some (.int (-1))]) (st := []) (c1 := 0) (s1 := 0) (g := (ab_G mi53 ml54)) rfl ⟨trivial, trivial, trivial⟩ hc ?_
                    refine ab_wk 3 (f' := (if (mi57 40 8) = 0 then 200 else 207, [some (.ref 40), some (.int x1), some (.int 3), some (.int (-1))], [], 0, 0, (ab_G mi57 ml58))) rfl ⟨trivial, trivial, trivial, trivial⟩ ?_
                    refine ab_wi (fun c => ?_) (fun c => ?_)
                    · have h := h.1 c
                      obtain ⟨mi59, ml60, hc, h⟩ := h
                      refine ab_wc 5 (c := 177) (as := [.ref 40, .int x1, .int 3, .int (-1)]) (pc := 207) (ll := [some (.ref 40), some (.int x1), some (.int 3), some (.int (-1))]) (st := []) (c1 := 0) (s1 := 0) (g := (ab_G mi57 ml58)) rfl ⟨trivial, trivial, trivial, trivial, trivial⟩ hc ?_
                      exact ab_wr 3 rfl ⟨trivial, trivial, trivial⟩ h
                    · have h := h.2 c
                      exact ab_wr 3 rfl ⟨trivial, trivial, trivial⟩ h
                · have h := h.2 c
                  refine ab_wk 3 (f' := (if (mi53 40 8) = 0 then 200 else 207, [some (.ref 40), some (.int x1), some (.int 3), some (.int (-1))], [], 0, 0, (ab_G mi53 ml54))) rfl ⟨trivial, trivial, trivial, trivial⟩ ?_
                  refine ab_wi (fun c => ?_) (fun c => ?_)
                  · have h := h.1 c
                    obtain ⟨mi61, ml62, hc, h⟩ := h
                    refine ab_wc 5 (c := 177) (as := [.ref 40, .int x1, .int 3, .int (-1)]) (pc := 207) (ll := [some (.ref 40), some (.int x1), some (.int 3), some (.int (-1))]) (st := []) (c1 := 0) (s1 := 0) (g := (ab_G mi53 ml54)) rfl ⟨trivial, trivial, trivial, trivial, trivial⟩ hc ?_
                    exact ab_wr 3 rfl ⟨trivial, trivial, trivial⟩ h
                  · have h := h.2 c
                    exact ab_wr 3 rfl ⟨trivial, trivial, trivial⟩ h
          · have h := h.2 c
            refine ab_wk 7 (f' := (if (2 : Int32) < 0 then 100 else 108, [some (.ref 40), some (.int x1), some (.int 2), some (.int (-1))], [], 0, 0, (ab_G mi12 ml13))) rfl ⟨trivial, trivial, trivial, trivial, trivial, trivial, trivial, trivial⟩ ?_
            refine ab_wif (c := ((2 : Int32) < 0)) (by decide) ?_
            refine ab_wk 9 (f' := (if (mi12 40 8) = 0 then 125 else 135, [some (.ref 40), some (.int x1), some (.int 2), some (.int (-1))], [], 0, 0, (ab_G (ab_ui mi12 40 7 ((mi12 40 7) + 1)) ml13))) rfl ⟨trivial, trivial, trivial, trivial, trivial, trivial, trivial, trivial, trivial, trivial⟩ ?_
            refine ab_wi (fun c => ?_) (fun c => ?_)
            · have h := h.1 c
              refine ab_wk 3 (f' := (if (2 : Int32) = 3 then 135 else 130, [some (.ref 40), some (.int x1), some (.int 2), some (.int (-1))], [], 0, 0, (ab_G (ab_ui mi12 40 7 ((mi12 40 7) + 1)) ml13))) rfl ⟨trivial, trivial, trivial, trivial⟩ ?_
              refine ab_wif (c := ((2 : Int32) = 3)) (by decide) ?_
              obtain ⟨r65, mi63, ml64, hc, h⟩ := h
              refine ab_wc 2 (c := 176) (as := [.ref 40]) (pc := 134) (ll := [some (.ref 40), some (.int x1), some (.int 2), some (.int (-1))]) (st := []) (c1 := 0) (s1 := 0) (g := (ab_G (ab_ui mi12 40 7 ((mi12 40 7) + 1)) ml13)) rfl ⟨trivial, trivial⟩ hc ?_
              refine ab_wk 4 (f' := (if (2 : Int32) = 2 then 140 else 146, [some (.ref 40), some (.int x1), some (.int 2), some (.int r65)], [], 0, 0, (ab_G mi63 ml64))) rfl ⟨trivial, trivial, trivial, trivial, trivial⟩ ?_
              refine ab_wit (c := ((2 : Int32) = 2)) (by decide) ?_
              obtain ⟨mi66, ml67, hc, h⟩ := h
              refine ab_wc 3 (c := 159) (as := [.ref 40, .int 13]) (pc := 146) (ll := [some (.ref 40), some (.int x1), some (.int 2), some (.int r65)]) (st := []) (c1 := 0) (s1 := 0) (g := (ab_G mi63 ml64)) rfl ⟨trivial, trivial, trivial⟩ hc ?_
              refine ab_wk 3 (f' := (if (2 : Int32) = 2 then 156 else 151, [some (.ref 40), some (.int x1), some (.int 2), some (.int r65)], [], 0, 0, (ab_G mi66 ml67))) rfl ⟨trivial, trivial, trivial, trivial⟩ ?_
              refine ab_wit (c := ((2 : Int32) = 2)) (by decide) ?_
              obtain ⟨mi68, ml69, hc, h⟩ := h
              refine ab_wc 2 (c := 169) (as := [.ref 40]) (pc := 160) (ll := [some (.ref 40), some (.int x1), some (.int 2), some (.int r65)]) (st := []) (c1 := 0) (s1 := 0) (g := (ab_G mi66 ml67)) rfl ⟨trivial, trivial⟩ hc ?_
              refine ab_wk 4 (f' := (if (mi68 40 8) = 0 then 176 else 193, [some (.ref 40), some (.int x1), some (.int 2), some (.int r65)], [], 0, 0, (ab_G mi68 ml69))) rfl ⟨trivial, trivial, trivial, trivial, trivial⟩ ?_
              refine ab_wi (fun c => ?_) (fun c => ?_)
              · have h := h.1 c
                obtain ⟨p0, h⟩ := h
                refine ab_wk 6 (f' := (if (mi68 42 ((mi68 40 7)).toNatClampNeg) = 0 then 193 else 188, [some (.ref 40), some (.int x1), some (.int 2), some (.int r65)], [], 0, 0, (ab_G mi68 ml69))) rfl ⟨trivial, trivial, trivial, trivial, p0, trivial, trivial⟩ ?_
                refine ab_wi (fun c => ?_) (fun c => ?_)
                · have h := h.1 c
                  refine ab_wk 3 (f' := (if (mi68 40 8) = 0 then 200 else 207, [some (.ref 40), some (.int x1), some (.int 2), some (.int r65)], [], 0, 0, (ab_G mi68 ml69))) rfl ⟨trivial, trivial, trivial, trivial⟩ ?_
                  refine ab_wi (fun c => ?_) (fun c => ?_)
                  · have h := h.1 c
                    obtain ⟨mi70, ml71, hc, h⟩ := h
                    refine ab_wc 5 (c := 177) (as := [.ref 40, .int x1, .int 2, .int r65]) (pc := 207) (ll := [some (.ref 40), some (.int x1), some (.int 2), some (.int r65)]) (st := []) (c1 := 0) (s1 := 0) (g := (ab_G mi68 ml69)) rfl ⟨trivial, trivial, trivial, trivial, trivial⟩ hc ?_
                    exact ab_wr 3 rfl ⟨trivial, trivial, trivial⟩ h
                  · have h := h.2 c
                    exact ab_wr 3 rfl ⟨trivial, trivial, trivial⟩ h
                · have h := h.2 c
                  obtain ⟨mi72, ml73, hc, h⟩ := h
                  refine ab_wc 3 (c := 153) (as := [.ref 40, .int 1]) (pc := 193) (ll := [some (.ref 40), some (.int x1), some (.int 2), some (.int r65)]) (st := []) (c1 := 0) (s1 := 0) (g := (ab_G mi68 ml69)) rfl ⟨trivial, trivial, trivial⟩ hc ?_
                  refine ab_wk 3 (f' := (if (mi72 40 8) = 0 then 200 else 207, [some (.ref 40), some (.int x1), some (.int 2), some (.int r65)], [], 0, 0, (ab_G mi72 ml73))) rfl ⟨trivial, trivial, trivial, trivial⟩ ?_
                  refine ab_wi (fun c => ?_) (fun c => ?_)
                  · have h := h.1 c
                    obtain ⟨mi74, ml75, hc, h⟩ := h
                    refine ab_wc 5 (c := 177) (as := [.ref 40, .int x1, .int 2, .int r65]) (pc := 207) (ll := [some (.ref 40), some (.int x1), some (.int 2), some (.int r65)]) (st := []) (c1 := 0) (s1 := 0) (g := (ab_G mi72 ml73)) rfl ⟨trivial, trivial, trivial, trivial, trivial⟩ hc ?_
                    exact ab_wr 3 rfl ⟨trivial, trivial, trivial⟩ h
                  · have h := h.2 c
                    exact ab_wr 3 rfl ⟨trivial, trivial, trivial⟩ h
              · have h := h.2 c
                refine ab_wk 3 (f' := (if (mi68 40 8) = 0 then 200 else 207, [some (.ref 40), some (.int x1), some (.int 2), some (.int r65)], [], 0, 0, (ab_G mi68 ml69))) rfl ⟨trivial, trivial, trivial, trivial⟩ ?_
                refine ab_wi (fun c => ?_) (fun c => ?_)
                · have h := h.1 c
                  obtain ⟨mi76, ml77, hc, h⟩ := h
                  refine ab_wc 5 (c := 177) (as := [.ref 40, .int x1, .int 2, .int r65]) (pc := 207) (ll := [some (.ref 40), some (.int x1), some (.int 2), some (.int r65)]) (st := []) (c1 := 0) (s1 := 0) (g := (ab_G mi68 ml69)) rfl ⟨trivial, trivial, trivial, trivial, trivial⟩ hc ?_
                  exact ab_wr 3 rfl ⟨trivial, trivial, trivial⟩ h
                · have h := h.2 c
                  exact ab_wr 3 rfl ⟨trivial, trivial, trivial⟩ h
            · have h := h.2 c
              refine ab_wk 3 (f' := (if (2 : Int32) = 2 then 140 else 146, [some (.ref 40), some (.int x1), some (.int 2), some (.int (-1))], [], 0, 0, (ab_G (ab_ui mi12 40 7 ((mi12 40 7) + 1)) ml13))) rfl ⟨trivial, trivial, trivial, trivial⟩ ?_
              refine ab_wit (c := ((2 : Int32) = 2)) (by decide) ?_
              obtain ⟨mi78, ml79, hc, h⟩ := h
              refine ab_wc 3 (c := 159) (as := [.ref 40, .int 13]) (pc := 146) (ll := [some (.ref 40), some (.int x1), some (.int 2), some (.int (-1))]) (st := []) (c1 := 0) (s1 := 0) (g := (ab_G (ab_ui mi12 40 7 ((mi12 40 7) + 1)) ml13)) rfl ⟨trivial, trivial, trivial⟩ hc ?_
              refine ab_wk 3 (f' := (if (2 : Int32) = 2 then 156 else 151, [some (.ref 40), some (.int x1), some (.int 2), some (.int (-1))], [], 0, 0, (ab_G mi78 ml79))) rfl ⟨trivial, trivial, trivial, trivial⟩ ?_
              refine ab_wit (c := ((2 : Int32) = 2)) (by decide) ?_
              obtain ⟨mi80, ml81, hc, h⟩ := h
              refine ab_wc 2 (c := 169) (as := [.ref 40]) (pc := 160) (ll := [some (.ref 40), some (.int x1), some (.int 2), some (.int (-1))]) (st := []) (c1 := 0) (s1 := 0) (g := (ab_G mi78 ml79)) rfl ⟨trivial, trivial⟩ hc ?_
              refine ab_wk 4 (f' := (if (mi80 40 8) = 0 then 176 else 193, [some (.ref 40), some (.int x1), some (.int 2), some (.int (-1))], [], 0, 0, (ab_G mi80 ml81))) rfl ⟨trivial, trivial, trivial, trivial, trivial⟩ ?_
              refine ab_wi (fun c => ?_) (fun c => ?_)
              · have h := h.1 c
                obtain ⟨p0, h⟩ := h
                refine ab_wk 6 (f' := (if (mi80 42 ((mi80 40 7)).toNatClampNeg) = 0 then 193 else 188, [some (.ref 40), some (.int x1), some (.int 2), some (.int (-1))], [], 0, 0, (ab_G mi80 ml81))) rfl ⟨trivial, trivial, trivial, trivial, p0, trivial, trivial⟩ ?_
                refine ab_wi (fun c => ?_) (fun c => ?_)
                · have h := h.1 c
                  refine ab_wk 3 (f' := (if (mi80 40 8) = 0 then 200 else 207, [some (.ref 40), some (.int x1), some (.int 2), some (.int (-1))], [], 0, 0, (ab_G mi80 ml81))) rfl ⟨trivial, trivial, trivial, trivial⟩ ?_
                  refine ab_wi (fun c => ?_) (fun c => ?_)
                  · have h := h.1 c
                    obtain ⟨mi82, ml83, hc, h⟩ := h
                    refine ab_wc 5 (c := 177) (as := [.ref 40, .int x1, .int 2, .int (-1)]) (pc := 207) (ll := [some (.ref 40), some (.int x1), some (.int 2), some (.int (-1))]) (st := []) (c1 := 0) (s1 := 0) (g := (ab_G mi80 ml81)) rfl ⟨trivial, trivial, trivial, trivial, trivial⟩ hc ?_
                    exact ab_wr 3 rfl ⟨trivial, trivial, trivial⟩ h
                  · have h := h.2 c
                    exact ab_wr 3 rfl ⟨trivial, trivial, trivial⟩ h
                · have h := h.2 c
                  obtain ⟨mi84, ml85, hc, h⟩ := h
                  refine ab_wc 3 (c := 153) (as := [.ref 40, .int 1]) (pc := 193) (ll := [some (.ref 40), some (.int x1), some (.int 2), some (.int (-1))]) (st := []) (c1 := 0) (s1 := 0) (g := (ab_G mi80 ml81)) rfl ⟨trivial, trivial, trivial⟩ hc ?_
                  refine ab_wk 3 (f' := (if (mi84 40 8) = 0 then 200 else 207, [some (.ref 40), some (.int x1), some (.int 2), some (.int (-1))], [], 0, 0, (ab_G mi84 ml85))) rfl ⟨trivial, trivial, trivial, trivial⟩ ?_
                  refine ab_wi (fun c => ?_) (fun c => ?_)
                  · have h := h.1 c
                    obtain ⟨mi86, ml87, hc, h⟩ := h
                    refine ab_wc 5 (c := 177) (as := [.ref 40, .int x1, .int 2, .int (-1)]) (pc := 207) (ll := [some (.ref 40), some (.int x1), some (.int 2), some (.int (-1))]) (st := []) (c1 := 0) (s1 := 0) (g := (ab_G mi84 ml85)) rfl ⟨trivial, trivial, trivial, trivial, trivial⟩ hc ?_
                    exact ab_wr 3 rfl ⟨trivial, trivial, trivial⟩ h
                  · have h := h.2 c
                    exact ab_wr 3 rfl ⟨trivial, trivial, trivial⟩ h
              · have h := h.2 c
                refine ab_wk 3 (f' := (if (mi80 40 8) = 0 then 200 else 207, [some (.ref 40), some (.int x1), some (.int 2), some (.int (-1))], [], 0, 0, (ab_G mi80 ml81))) rfl ⟨trivial, trivial, trivial, trivial⟩ ?_
                refine ab_wi (fun c => ?_) (fun c => ?_)
                · have h := h.1 c
                  obtain ⟨mi88, ml89, hc, h⟩ := h
                  refine ab_wc 5 (c := 177) (as := [.ref 40, .int x1, .int 2, .int (-1)]) (pc := 207) (ll := [some (.ref 40), some (.int x1), some (.int 2), some (.int (-1))]) (st := []) (c1 := 0) (s1 := 0) (g := (ab_G mi80 ml81)) rfl ⟨trivial, trivial, trivial, trivial, trivial⟩ hc ?_
                  exact ab_wr 3 rfl ⟨trivial, trivial, trivial⟩ h
                · have h := h.2 c
                  exact ab_wr 3 rfl ⟨trivial, trivial, trivial⟩ h
        · have h := h.2 c
          refine ab_wk 7 (f' := (if (1 : Int32) < 0 then 100 else 108, [some (.ref 40), some (.int x1), some (.int 1), some (.int (-1))], [], 0, 0, (ab_G mi9 ml10))) rfl ⟨trivial, trivial, trivial, trivial, trivial, trivial, trivial, trivial⟩ ?_
          refine ab_wif (c := ((1 : Int32) < 0)) (by decide) ?_
          refine ab_wk 9 (f' := (if (mi9 40 8) = 0 then 125 else 135, [some (.ref 40), some (.int x1), some (.int 1), some (.int (-1))], [], 0, 0, (ab_G (ab_ui mi9 40 7 ((mi9 40 7) + 1)) ml10))) rfl ⟨trivial, trivial, trivial, trivial, trivial, trivial, trivial, trivial, trivial, trivial⟩ ?_
          refine ab_wi (fun c => ?_) (fun c => ?_)
          · have h := h.1 c
            refine ab_wk 3 (f' := (if (1 : Int32) = 3 then 135 else 130, [some (.ref 40), some (.int x1), some (.int 1), some (.int (-1))], [], 0, 0, (ab_G (ab_ui mi9 40 7 ((mi9 40 7) + 1)) ml10))) rfl ⟨trivial, trivial, trivial, trivial⟩ ?_
            refine ab_wif (c := ((1 : Int32) = 3)) (by decide) ?_
            obtain ⟨r92, mi90, ml91, hc, h⟩ := h
            refine ab_wc 2 (c := 176) (as := [.ref 40]) (pc := 134) (ll := [some (.ref 40), some (.int x1), some (.int 1), some (.int (-1))]) (st := []) (c1 := 0) (s1 := 0) (g := (ab_G (ab_ui mi9 40 7 ((mi9 40 7) + 1)) ml10)) rfl ⟨trivial, trivial⟩ hc ?_
            refine ab_wk 4 (f' := (if (1 : Int32) = 2 then 140 else 146, [some (.ref 40), some (.int x1), some (.int 1), some (.int r92)], [], 0, 0, (ab_G mi90 ml91))) rfl ⟨trivial, trivial, trivial, trivial, trivial⟩ ?_
            refine ab_wif (c := ((1 : Int32) = 2)) (by decide) ?_
            refine ab_wk 3 (f' := (if (1 : Int32) = 2 then 156 else 151, [some (.ref 40), some (.int x1), some (.int 1), some (.int r92)], [], 0, 0, (ab_G mi90 ml91))) rfl ⟨trivial, trivial, trivial, trivial⟩ ?_
            refine ab_wif (c := ((1 : Int32) = 2)) (by decide) ?_
            refine ab_wk 3 (f' := (if (1 : Int32) = 3 then 156 else 163, [some (.ref 40), some (.int x1), some (.int 1), some (.int r92)], [], 0, 0, (ab_G mi90 ml91))) rfl ⟨trivial, trivial, trivial, trivial⟩ ?_
            refine ab_wif (c := ((1 : Int32) = 3)) (by decide) ?_
            obtain ⟨mi93, ml94, hc, h⟩ := h
            refine ab_wc 3 (c := 156) (as := [.ref 40, .int 59]) (pc := 169) (ll := [some (.ref 40), some (.int x1), some (.int 1), some (.int r92)]) (st := []) (c1 := 0) (s1 := 0) (g := (ab_G mi90 ml91)) rfl ⟨trivial, trivial, trivial⟩ hc ?_
            refine ab_wk 3 (f' := (if (mi93 40 8) = 0 then 176 else 193, [some (.ref 40), some (.int x1), some (.int 1), some (.int r92)], [], 0, 0, (ab_G mi93 ml94))) rfl ⟨trivial, trivial, trivial, trivial⟩ ?_
            refine ab_wi (fun c => ?_) (fun c => ?_)
            · have h := h.1 c
              obtain ⟨p0, h⟩ := h
              refine ab_wk 6 (f' := (if (mi93 42 ((mi93 40 7)).toNatClampNeg) = 0 then 193 else 188, [some (.ref 40), some (.int x1), some (.int 1), some (.int r92)], [], 0, 0, (ab_G mi93 ml94))) rfl ⟨trivial, trivial, trivial, trivial, p0, trivial, trivial⟩ ?_
              refine ab_wi (fun c => ?_) (fun c => ?_)
              · have h := h.1 c
                refine ab_wk 3 (f' := (if (mi93 40 8) = 0 then 200 else 207, [some (.ref 40), some (.int x1), some (.int 1), some (.int r92)], [], 0, 0, (ab_G mi93 ml94))) rfl ⟨trivial, trivial, trivial, trivial⟩ ?_
                refine ab_wi (fun c => ?_) (fun c => ?_)
                · have h := h.1 c
                  obtain ⟨mi95, ml96, hc, h⟩ := h
                  refine ab_wc 5 (c := 177) (as := [.ref 40, .int x1, .int 1, .int r92]) (pc := 207) (ll := [some (.ref 40), some (.int x1), some (.int 1), some (.int r92)]) (st := []) (c1 := 0) (s1 := 0) (g := (ab_G mi93 ml94)) rfl ⟨trivial, trivial, trivial, trivial, trivial⟩ hc ?_
                  exact ab_wr 3 rfl ⟨trivial, trivial, trivial⟩ h
                · have h := h.2 c
                  exact ab_wr 3 rfl ⟨trivial, trivial, trivial⟩ h
              · have h := h.2 c
                obtain ⟨mi97, ml98, hc, h⟩ := h
                refine ab_wc 3 (c := 153) (as := [.ref 40, .int 1]) (pc := 193) (ll := [some (.ref 40), some (.int x1), some (.int 1), some (.int r92)]) (st := []) (c1 := 0) (s1 := 0) (g := (ab_G mi93 ml94)) rfl ⟨trivial, trivial, trivial⟩ hc ?_
                refine ab_wk 3 (f' := (if (mi97 40 8) = 0 then 200 else 207, [some (.ref 40), some (.int x1), some (.int 1), some (.int r92)], [], 0, 0, (ab_G mi97 ml98))) rfl ⟨trivial, trivial, trivial, trivial⟩ ?_
                refine ab_wi (fun c => ?_) (fun c => ?_)
                · have h := h.1 c
                  obtain ⟨mi99, ml100, hc, h⟩ := h
                  refine ab_wc 5 (c := 177) (as := [.ref 40, .int x1, .int 1, .int r92]) (pc := 207) (ll := [some (.ref 40), some (.int x1), some (.int 1), some (.int r92)]) (st := []) (c1 := 0) (s1 := 0) (g := (ab_G mi97 ml98)) rfl ⟨trivial, trivial, trivial, trivial, trivial⟩ hc ?_
                  exact ab_wr 3 rfl ⟨trivial, trivial, trivial⟩ h
                · have h := h.2 c
                  exact ab_wr 3 rfl ⟨trivial, trivial, trivial⟩ h
            · have h := h.2 c
              refine ab_wk 3 (f' := (if (mi93 40 8) = 0 then 200 else 207, [some (.ref 40), some (.int x1), some (.int 1), some (.int r92)], [], 0, 0, (ab_G mi93 ml94))) rfl ⟨trivial, trivial, trivial, trivial⟩ ?_
              refine ab_wi (fun c => ?_) (fun c => ?_)
              · have h := h.1 c
                obtain ⟨mi101, ml102, hc, h⟩ := h
                refine ab_wc 5 (c := 177) (as := [.ref 40, .int x1, .int 1, .int r92]) (pc := 207) (ll := [some (.ref 40), some (.int x1), some (.int 1), some (.int r92)]) (st := []) (c1 := 0) (s1 := 0) (g := (ab_G mi93 ml94)) rfl ⟨trivial, trivial, trivial, trivial, trivial⟩ hc ?_
                exact ab_wr 3 rfl ⟨trivial, trivial, trivial⟩ h
              · have h := h.2 c
                exact ab_wr 3 rfl ⟨trivial, trivial, trivial⟩ h
          · have h := h.2 c
            refine ab_wk 3 (f' := (if (1 : Int32) = 2 then 140 else 146, [some (.ref 40), some (.int x1), some (.int 1), some (.int (-1))], [], 0, 0, (ab_G (ab_ui mi9 40 7 ((mi9 40 7) + 1)) ml10))) rfl ⟨trivial, trivial, trivial, trivial⟩ ?_
            refine ab_wif (c := ((1 : Int32) = 2)) (by decide) ?_
            refine ab_wk 3 (f' := (if (1 : Int32) = 2 then 156 else 151, [some (.ref 40), some (.int x1), some (.int 1), some (.int (-1))], [], 0, 0, (ab_G (ab_ui mi9 40 7 ((mi9 40 7) + 1)) ml10))) rfl ⟨trivial, trivial, trivial, trivial⟩ ?_
            refine ab_wif (c := ((1 : Int32) = 2)) (by decide) ?_
            refine ab_wk 3 (f' := (if (1 : Int32) = 3 then 156 else 163, [some (.ref 40), some (.int x1), some (.int 1), some (.int (-1))], [], 0, 0, (ab_G (ab_ui mi9 40 7 ((mi9 40 7) + 1)) ml10))) rfl ⟨trivial, trivial, trivial, trivial⟩ ?_
            refine ab_wif (c := ((1 : Int32) = 3)) (by decide) ?_
            obtain ⟨mi103, ml104, hc, h⟩ := h
            refine ab_wc 3 (c := 156) (as := [.ref 40, .int 59]) (pc := 169) (ll := [some (.ref 40), some (.int x1), some (.int 1), some (.int (-1))]) (st := []) (c1 := 0) (s1 := 0) (g := (ab_G (ab_ui mi9 40 7 ((mi9 40 7) + 1)) ml10)) rfl ⟨trivial, trivial, trivial⟩ hc ?_
            refine ab_wk 3 (f' := (if (mi103 40 8) = 0 then 176 else 193, [some (.ref 40), some (.int x1), some (.int 1), some (.int (-1))], [], 0, 0, (ab_G mi103 ml104))) rfl ⟨trivial, trivial, trivial, trivial⟩ ?_
            refine ab_wi (fun c => ?_) (fun c => ?_)
            · have h := h.1 c
              obtain ⟨p0, h⟩ := h
              refine ab_wk 6 (f' := (if (mi103 42 ((mi103 40 7)).toNatClampNeg) = 0 then 193 else 188, [some (.ref 40), some (.int x1), some (.int 1), some (.int (-1))], [], 0, 0, (ab_G mi103 ml104))) rfl ⟨trivial, trivial, trivial, trivial, p0, trivial, trivial⟩ ?_
              refine ab_wi (fun c => ?_) (fun c => ?_)
              · have h := h.1 c
                refine ab_wk 3 (f' := (if (mi103 40 8) = 0 then 200 else 207, [some (.ref 40), some (.int x1), some (.int 1), some (.int (-1))], [], 0, 0, (ab_G mi103 ml104))) rfl ⟨trivial, trivial, trivial, trivial⟩ ?_
                refine ab_wi (fun c => ?_) (fun c => ?_)
                · have h := h.1 c
                  obtain ⟨mi105, ml106, hc, h⟩ := h
                  refine ab_wc 5 (c := 177) (as := [.ref 40, .int x1, .int 1, .int (-1)]) (pc := 207) (ll := [some (.ref 40), some (.int x1), some (.int 1), some (.int (-1))]) (st := []) (c1 := 0) (s1 := 0) (g := (ab_G mi103 ml104)) rfl ⟨trivial, trivial, trivial, trivial, trivial⟩ hc ?_
                  exact ab_wr 3 rfl ⟨trivial, trivial, trivial⟩ h
                · have h := h.2 c
                  exact ab_wr 3 rfl ⟨trivial, trivial, trivial⟩ h
              · have h := h.2 c
                obtain ⟨mi107, ml108, hc, h⟩ := h
                refine ab_wc 3 (c := 153) (as := [.ref 40, .int 1]) (pc := 193) (ll := [some (.ref 40), some (.int x1), some (.int 1), some (.int (-1))]) (st := []) (c1 := 0) (s1 := 0) (g := (ab_G mi103 ml104)) rfl ⟨trivial, trivial, trivial⟩ hc ?_
                refine ab_wk 3 (f' := (if (mi107 40 8) = 0 then 200 else 207, [some (.ref 40), some (.int x1), some (.int 1), some (.int (-1))], [], 0, 0, (ab_G mi107 ml108))) rfl ⟨trivial, trivial, trivial, trivial⟩ ?_
                refine ab_wi (fun c => ?_) (fun c => ?_)
                · have h := h.1 c
                  obtain ⟨mi109, ml110, hc, h⟩ := h
                  refine ab_wc 5 (c := 177) (as := [.ref 40, .int x1, .int 1, .int (-1)]) (pc := 207) (ll := [some (.ref 40), some (.int x1), some (.int 1), some (.int (-1))]) (st := []) (c1 := 0) (s1 := 0) (g := (ab_G mi107 ml108)) rfl ⟨trivial, trivial, trivial, trivial, trivial⟩ hc ?_
                  exact ab_wr 3 rfl ⟨trivial, trivial, trivial⟩ h
                · have h := h.2 c
                  exact ab_wr 3 rfl ⟨trivial, trivial, trivial⟩ h
            · have h := h.2 c
              refine ab_wk 3 (f' := (if (mi103 40 8) = 0 then 200 else 207, [some (.ref 40), some (.int x1), some (.int 1), some (.int (-1))], [], 0, 0, (ab_G mi103 ml104))) rfl ⟨trivial, trivial, trivial, trivial⟩ ?_
              refine ab_wi (fun c => ?_) (fun c => ?_)
              · have h := h.1 c
                obtain ⟨mi111, ml112, hc, h⟩ := h
                refine ab_wc 5 (c := 177) (as := [.ref 40, .int x1, .int 1, .int (-1)]) (pc := 207) (ll := [some (.ref 40), some (.int x1), some (.int 1), some (.int (-1))]) (st := []) (c1 := 0) (s1 := 0) (g := (ab_G mi103 ml104)) rfl ⟨trivial, trivial, trivial, trivial, trivial⟩ hc ?_
                exact ab_wr 3 rfl ⟨trivial, trivial, trivial⟩ h
              · have h := h.2 c
                exact ab_wr 3 rfl ⟨trivial, trivial, trivial⟩ h
      · have h := h.2 c
        refine ab_wk 7 (f' := (if (0 : Int32) < 0 then 100 else 108, [some (.ref 40), some (.int x1), some (.int 0), some (.int (-1))], [], 0, 0, (ab_G mi6 ml7))) rfl ⟨trivial, trivial, trivial, trivial, trivial, trivial, trivial, trivial⟩ ?_
        refine ab_wif (c := ((0 : Int32) < 0)) (by decide) ?_
        refine ab_wk 9 (f' := (if (mi6 40 8) = 0 then 125 else 135, [some (.ref 40), some (.int x1), some (.int 0), some (.int (-1))], [], 0, 0, (ab_G (ab_ui mi6 40 7 ((mi6 40 7) + 1)) ml7))) rfl ⟨trivial, trivial, trivial, trivial, trivial, trivial, trivial, trivial, trivial, trivial⟩ ?_
        refine ab_wi (fun c => ?_) (fun c => ?_)
        · have h := h.1 c
          refine ab_wk 3 (f' := (if (0 : Int32) = 3 then 135 else 130, [some (.ref 40), some (.int x1), some (.int 0), some (.int (-1))], [], 0, 0, (ab_G (ab_ui mi6 40 7 ((mi6 40 7) + 1)) ml7))) rfl ⟨trivial, trivial, trivial, trivial⟩ ?_
          refine ab_wif (c := ((0 : Int32) = 3)) (by decide) ?_
          obtain ⟨r115, mi113, ml114, hc, h⟩ := h
          refine ab_wc 2 (c := 176) (as := [.ref 40]) (pc := 134) (ll := [some (.ref 40), some (.int x1), some (.int 0), some (.int (-1))]) (st := []) (c1 := 0) (s1 := 0) (g := (ab_G (ab_ui mi6 40 7 ((mi6 40 7) + 1)) ml7)) rfl ⟨trivial, trivial⟩ hc ?_
          refine ab_wk 4 (f' := (if (0 : Int32) = 2 then 140 else 146, [some (.ref 40), some (.int x1), some (.int 0), some (.int r115)], [], 0, 0, (ab_G mi113 ml114))) rfl ⟨trivial, trivial, trivial, trivial, trivial⟩ ?_
          refine ab_wif (c := ((0 : Int32) = 2)) (by decide) ?_
          refine ab_wk 3 (f' := (if (0 : Int32) = 2 then 156 else 151, [some (.ref 40), some (.int x1), some (.int 0), some (.int r115)], [], 0, 0, (ab_G mi113 ml114))) rfl ⟨trivial, trivial, trivial, trivial⟩ ?_
          refine ab_wif (c := ((0 : Int32) = 2)) (by decide) ?_
          refine ab_wk 3 (f' := (if (0 : Int32) = 3 then 156 else 163, [some (.ref 40), some (.int x1), some (.int 0), some (.int r115)], [], 0, 0, (ab_G mi113 ml114))) rfl ⟨trivial, trivial, trivial, trivial⟩ ?_
          refine ab_wif (c := ((0 : Int32) = 3)) (by decide) ?_
          obtain ⟨mi116, ml117, hc, h⟩ := h
          refine ab_wc 3 (c := 156) (as := [.ref 40, .int 59]) (pc := 169) (ll := [some (.ref 40), some (.int x1), some (.int 0), some (.int r115)]) (st := []) (c1 := 0) (s1 := 0) (g := (ab_G mi113 ml114)) rfl ⟨trivial, trivial, trivial⟩ hc ?_
          refine ab_wk 3 (f' := (if (mi116 40 8) = 0 then 176 else 193, [some (.ref 40), some (.int x1), some (.int 0), some (.int r115)], [], 0, 0, (ab_G mi116 ml117))) rfl ⟨trivial, trivial, trivial, trivial⟩ ?_
          refine ab_wi (fun c => ?_) (fun c => ?_)
          · have h := h.1 c
            obtain ⟨p0, h⟩ := h
            refine ab_wk 6 (f' := (if (mi116 42 ((mi116 40 7)).toNatClampNeg) = 0 then 193 else 188, [some (.ref 40), some (.int x1), some (.int 0), some (.int r115)], [], 0, 0, (ab_G mi116 ml117))) rfl ⟨trivial, trivial, trivial, trivial, p0, trivial, trivial⟩ ?_
            refine ab_wi (fun c => ?_) (fun c => ?_)
            · have h := h.1 c
              refine ab_wk 3 (f' := (if (mi116 40 8) = 0 then 200 else 207, [some (.ref 40), some (.int x1), some (.int 0), some (.int r115)], [], 0, 0, (ab_G mi116 ml117))) rfl ⟨trivial, trivial, trivial, trivial⟩ ?_
              refine ab_wi (fun c => ?_) (fun c => ?_)
              · have h := h.1 c
                obtain ⟨mi118, ml119, hc, h⟩ := h
                refine ab_wc 5 (c := 177) (as := [.ref 40, .int x1, .int 0, .int r115]) (pc := 207) (ll := [some (.ref 40), some (.int x1), some (.int 0), some (.int r115)]) (st := []) (c1 := 0) (s1 := 0) (g := (ab_G mi116 ml117)) rfl ⟨trivial, trivial, trivial, trivial, trivial⟩ hc ?_
                exact ab_wr 3 rfl ⟨trivial, trivial, trivial⟩ h
              · have h := h.2 c
                exact ab_wr 3 rfl ⟨trivial, trivial, trivial⟩ h
            · have h := h.2 c
              obtain ⟨mi120, ml121, hc, h⟩ := h
              refine ab_wc 3 (c := 153) (as := [.ref 40, .int 1]) (pc := 193) (ll := [some (.ref 40), some (.int x1), some (.int 0), some (.int r115)]) (st := []) (c1 := 0) (s1 := 0) (g := (ab_G mi116 ml117)) rfl ⟨trivial, trivial, trivial⟩ hc ?_
              refine ab_wk 3 (f' := (if (mi120 40 8) = 0 then 200 else 207, [some (.ref 40), some (.int x1), some (.int 0), some (.int r115)], [], 0, 0, (ab_G mi120 ml121))) rfl ⟨trivial, trivial, trivial, trivial⟩ ?_
              refine ab_wi (fun c => ?_) (fun c => ?_)
              · have h := h.1 c
                obtain ⟨mi122, ml123, hc, h⟩ := h
                refine ab_wc 5 (c := 177) (as := [.ref 40, .int x1, .int 0, .int r115]) (pc := 207) (ll := [some (.ref 40), some (.int x1), some (.int 0), some (.int r115)]) (st := []) (c1 := 0) (s1 := 0) (g := (ab_G mi120 ml121)) rfl ⟨trivial, trivial, trivial, trivial, trivial⟩ hc ?_
                exact ab_wr 3 rfl ⟨trivial, trivial, trivial⟩ h
              · have h := h.2 c
                exact ab_wr 3 rfl ⟨trivial, trivial, trivial⟩ h
          · have h := h.2 c
            refine ab_wk 3 (f' := (if (mi116 40 8) = 0 then 200 else 207, [some (.ref 40), some (.int x1), some (.int 0), some (.int r115)], [], 0, 0, (ab_G mi116 ml117))) rfl ⟨trivial, trivial, trivial, trivial⟩ ?_
            refine ab_wi (fun c => ?_) (fun c => ?_)
            · have h := h.1 c
              obtain ⟨mi124, ml125, hc, h⟩ := h
              refine ab_wc 5 (c := 177) (as := [.ref 40, .int x1, .int 0, .int r115]) (pc := 207) (ll := [some (.ref 40), some (.int x1), some (.int 0), some (.int r115)]) (st := []) (c1 := 0) (s1 := 0) (g := (ab_G mi116 ml117)) rfl ⟨trivial, trivial, trivial, trivial, trivial⟩ hc ?_
              exact ab_wr 3 rfl ⟨trivial, trivial, trivial⟩ h
            · have h := h.2 c
              exact ab_wr 3 rfl ⟨trivial, trivial, trivial⟩ h
        · have h := h.2 c
          refine ab_wk 3 (f' := (if (0 : Int32) = 2 then 140 else 146, [some (.ref 40), some (.int x1), some (.int 0), some (.int (-1))], [], 0, 0, (ab_G (ab_ui mi6 40 7 ((mi6 40 7) + 1)) ml7))) rfl ⟨trivial, trivial, trivial, trivial⟩ ?_
          refine ab_wif (c := ((0 : Int32) = 2)) (by decide) ?_
          refine ab_wk 3 (f' := (if (0 : Int32) = 2 then 156 else 151, [some (.ref 40), some (.int x1), some (.int 0), some (.int (-1))], [], 0, 0, (ab_G (ab_ui mi6 40 7 ((mi6 40 7) + 1)) ml7))) rfl ⟨trivial, trivial, trivial, trivial⟩ ?_
          refine ab_wif (c := ((0 : Int32) = 2)) (by decide) ?_
          refine ab_wk 3 (f' := (if (0 : Int32) = 3 then 156 else 163, [some (.ref 40), some (.int x1), some (.int 0), some (.int (-1))], [], 0, 0, (ab_G (ab_ui mi6 40 7 ((mi6 40 7) + 1)) ml7))) rfl ⟨trivial, trivial, trivial, trivial⟩ ?_
          refine ab_wif (c := ((0 : Int32) = 3)) (by decide) ?_
          obtain ⟨mi126, ml127, hc, h⟩ := h
          refine ab_wc 3 (c := 156) (as := [.ref 40, .int 59]) (pc := 169) (ll := [some (.ref 40), some (.int x1), some (.int 0), some (.int (-1))]) (st := []) (c1 := 0) (s1 := 0) (g := (ab_G (ab_ui mi6 40 7 ((mi6 40 7) + 1)) ml7)) rfl ⟨trivial, trivial, trivial⟩ hc ?_
          refine ab_wk 3 (f' := (if (mi126 40 8) = 0 then 176 else 193, [some (.ref 40), some (.int x1), some (.int 0), some (.int (-1))], [], 0, 0, (ab_G mi126 ml127))) rfl ⟨trivial, trivial, trivial, trivial⟩ ?_
          refine ab_wi (fun c => ?_) (fun c => ?_)
          · have h := h.1 c
            obtain ⟨p0, h⟩ := h
            refine ab_wk 6 (f' := (if (mi126 42 ((mi126 40 7)).toNatClampNeg) = 0 then 193 else 188, [some (.ref 40), some (.int x1), some (.int 0), some (.int (-1))], [], 0, 0, (ab_G mi126 ml127))) rfl ⟨trivial, trivial, trivial, trivial, p0, trivial, trivial⟩ ?_
            refine ab_wi (fun c => ?_) (fun c => ?_)
            · have h := h.1 c
              refine ab_wk 3 (f' := (if (mi126 40 8) = 0 then 200 else 207, [some (.ref 40), some (.int x1), some (.int 0), some (.int (-1))], [], 0, 0, (ab_G mi126 ml127))) rfl ⟨trivial, trivial, trivial, trivial⟩ ?_
              refine ab_wi (fun c => ?_) (fun c => ?_)
              · have h := h.1 c
                obtain ⟨mi128, ml129, hc, h⟩ := h
                refine ab_wc 5 (c := 177) (as := [.ref 40, .int x1, .int 0, .int (-1)]) (pc := 207) (ll := [some (.ref 40), some (.int x1), some (.int 0), some (.int (-1))]) (st := []) (c1 := 0) (s1 := 0) (g := (ab_G mi126 ml127)) rfl ⟨trivial, trivial, trivial, trivial, trivial⟩ hc ?_
                exact ab_wr 3 rfl ⟨trivial, trivial, trivial⟩ h
              · have h := h.2 c
                exact ab_wr 3 rfl ⟨trivial, trivial, trivial⟩ h
            · have h := h.2 c
              obtain ⟨mi130, ml131, hc, h⟩ := h
              refine ab_wc 3 (c := 153) (as := [.ref 40, .int 1]) (pc := 193) (ll := [some (.ref 40), some (.int x1), some (.int 0), some (.int (-1))]) (st := []) (c1 := 0) (s1 := 0) (g := (ab_G mi126 ml127)) rfl ⟨trivial, trivial, trivial⟩ hc ?_
              refine ab_wk 3 (f' := (if (mi130 40 8) = 0 then 200 else 207, [some (.ref 40), some (.int x1), some (.int 0), some (.int (-1))], [], 0, 0, (ab_G mi130 ml131))) rfl ⟨trivial, trivial, trivial, trivial⟩ ?_
              refine ab_wi (fun c => ?_) (fun c => ?_)
              · have h := h.1 c
                obtain ⟨mi132, ml133, hc, h⟩ := h
                refine ab_wc 5 (c := 177) (as := [.ref 40, .int x1, .int 0, .int (-1)]) (pc := 207) (ll := [some (.ref 40), some (.int x1), some (.int 0), some (.int (-1))]) (st := []) (c1 := 0) (s1 := 0) (g := (ab_G mi130 ml131)) rfl ⟨trivial, trivial, trivial, trivial, trivial⟩ hc ?_
                exact ab_wr 3 rfl ⟨trivial, trivial, trivial⟩ h
              · have h := h.2 c
                exact ab_wr 3 rfl ⟨trivial, trivial, trivial⟩ h
          · have h := h.2 c
            refine ab_wk 3 (f' := (if (mi126 40 8) = 0 then 200 else 207, [some (.ref 40), some (.int x1), some (.int 0), some (.int (-1))], [], 0, 0, (ab_G mi126 ml127))) rfl ⟨trivial, trivial, trivial, trivial⟩ ?_
            refine ab_wi (fun c => ?_) (fun c => ?_)
            · have h := h.1 c
              obtain ⟨mi134, ml135, hc, h⟩ := h
              refine ab_wc 5 (c := 177) (as := [.ref 40, .int x1, .int 0, .int (-1)]) (pc := 207) (ll := [some (.ref 40), some (.int x1), some (.int 0), some (.int (-1))]) (st := []) (c1 := 0) (s1 := 0) (g := (ab_G mi126 ml127)) rfl ⟨trivial, trivial, trivial, trivial, trivial⟩ hc ?_
              exact ab_wr 3 rfl ⟨trivial, trivial, trivial⟩ h
            · have h := h.2 c
              exact ab_wr 3 rfl ⟨trivial, trivial, trivial⟩ h
theorem vc_X12_ground_0 {call : Nat → List Value → ab_S → Option Value → ab_S → Prop} {ro : ab_E} {Q : Option Value → ab_S → Prop} (x1 : Int32) (mi : Nat → Nat → Int32) (ml : Nat → Nat → Int64)
    (h : ∃ (r3 : Int32) (mi1 : Nat → Nat → Int32) (ml2 : Nat → Nat → Int64), call 182 [.ref 40, .int x1] (ab_G (ab_ui mi 40 0 0) ml) (some (.int r3)) (ab_G mi1 ml2) ∧ (((r3 = 0) → (Q (some (.int (-1))) (ab_G (ab_ui mi1 40 2 0) ml2))) ∧ (¬ (r3 = 0) → ((((mi1 40 30) = 20) → (Q (some (.int (-1))) (ab_G (ab_ui mi1 40 2 0) ml2))) ∧ (¬ ((mi1 40 30) = 20) → (∃ (mi4 : Nat → Nat → Int32) (ml5 : Nat → Nat → Int64), call 152 [.ref 40] (ab_G mi1 ml2) none (ab_G mi4 ml5) ∧ (∃ (mi6 : Nat → Nat → Int32) (ml7 : Nat → Nat → Int64), call 163 [.ref 40, .int 0] (ab_G mi4 ml5) none (ab_G mi6 ml7) ∧ (∃ (mi8 : Nat → Nat → Int32) (ml9 : Nat → Nat → Int64), call 156 [.ref 40, .int 59] (ab_G mi6 ml7) none (ab_G mi8 ml9) ∧ ((((mi8 40 8) = 0) → (vp_in (mi8 40 7) 1002 ∧ ((((mi8 42 ((mi8 40 7)).toNatClampNeg) = 0) → ((((mi8 40 8) = 0) → (vp_in (mi8 40 30) 20 ∧ (vp_in (mi8 40 30) 20 ∧ (vp_in (mi8 40 30) 20 ∧ (Q (some (.int (mi8 40 8))) (ab_G (ab_ui (ab_ui mi8 61 ((mi8 40 30)).toNatClampNeg x1) 40 30 ((mi8 40 30) + 1)) (ab_ul (ab_ul ml9 62 ((mi8 40 30)).toNatClampNeg (ml9 40 10)) 63 ((mi8 40 30)).toNatClampNeg (ml9 40 11)))))))) ∧ (¬ ((mi8 40 8) = 0) → (Q (some (.int (mi8 40 8))) (ab_G mi8 ml9))))) ∧ (¬ ((mi8 42 ((mi8 40 7)).toNatClampNeg) = 0) → (∃ (mi10 : Nat → Nat → Int32) (ml11 : Nat → Nat → Int64), call 153 [.ref 40, .int 1] (ab_G mi8 ml9) none (ab_G mi10 ml11) ∧ ((((mi10 40 8) = 0) → (vp_in (mi10 40 30) 20 ∧ (vp_in (mi10 40 30) 20 ∧ (vp_in (mi10 40 30) 20 ∧ (Q (some (.int (mi10 40 8))) (ab_G (ab_ui (ab_ui mi10 61 ((mi10 40 30)).toNatClampNeg x1) 40 30 ((mi10 40 30) + 1)) (ab_ul (ab_ul ml11 62 ((mi10 40 30)).toNatClampNeg (ml11 40 10)) 63 ((mi10 40 30)).toNatClampNeg (ml11 40 11)))))))) ∧ (¬ ((mi10 40 8) = 0) → (Q (some (.int (mi10 40 8))) (ab_G mi10 ml11))))))))) ∧ (¬ ((mi8 40 8) = 0) → ((((mi8 40 8) = 0) → (vp_in (mi8 40 30) 20 ∧ (vp_in (mi8 40 30) 20 ∧ (vp_in (mi8 40 30) 20 ∧ (Q (some (.int (mi8 40 8))) (ab_G (ab_ui (ab_ui mi8 61 ((mi8 40 30)).toNatClampNeg x1) 40 30 ((mi8 40 30) + 1)) (ab_ul (ab_ul ml9 62 ((mi8 40 30)).toNatClampNeg (ml9 40 10)) 63 ((mi8 40 30)).toNatClampNeg (ml9 40 11)))))))) ∧ (¬ ((mi8 40 8) = 0) → (Q (some (.int (mi8 40 8))) (ab_G mi8 ml9)))))))))))))) :
    ab_W call ro 0 0 (ab_lk2 pl_X12_ground) Q (0, [some (.ref 40), some (.int x1)], [], 0, 0, ab_G mi ml) := by
  obtain ⟨r3, mi1, ml2, hc, h⟩ := h
  refine ab_wc 6 (c := 182) (as := [.ref 40, .int x1]) (pc := 10) (ll := [some (.ref 40), some (.int x1)]) (st := []) (c1 := 0) (s1 := 0) (g := (ab_G (ab_ui mi 40 0 0) ml)) rfl ⟨trivial, trivial, trivial, trivial, trivial, trivial⟩ hc ?_
  refine ab_wk 1 (f' := (if r3 = 0 then 22 else 13, [some (.ref 40), some (.int x1)], [], 0, 0, (ab_G mi1 ml2))) rfl ⟨trivial, trivial⟩ ?_
  refine ab_wi (fun c => ?_) (fun c => ?_)
  · have h := h.1 c
    exact ab_wr 5 rfl ⟨trivial, trivial, trivial, trivial, trivial⟩ h
  · have h := h.2 c
    refine ab_wk 4 (f' := (if (mi1 40 30) = 20 then 22 else 29, [some (.ref 40), some (.int x1)], [], 0, 0, (ab_G mi1 ml2))) rfl ⟨trivial, trivial, trivial, trivial, trivial⟩ ?_
    refine ab_wi (fun c => ?_) (fun c => ?_)
    · have h := h.1 c
      exact ab_wr 5 rfl ⟨trivial, trivial, trivial, trivial, trivial⟩ h
    · have h := h.2 c
      obtain ⟨mi4, ml5, hc, h⟩ := h
      refine ab_wc 2 (c := 152) (as := [.ref 40]) (pc := 33) (ll := [some (.ref 40), some (.int x1)]) (st := []) (c1 := 0) (s1 := 0) (g := (ab_G mi1 ml2)) rfl ⟨trivial, trivial⟩ hc ?_
      obtain ⟨mi6, ml7, hc, h⟩ := h
      refine ab_wc 3 (c := 163) (as := [.ref 40, .int 0]) (pc := 38) (ll := [some (.ref 40), some (.int x1)]) (st := []) (c1 := 0) (s1 := 0) (g := (ab_G mi4 ml5)) rfl ⟨trivial, trivial, trivial⟩ hc ?_
      obtain ⟨mi8, ml9, hc, h⟩ := h
      refine ab_wc 3 (c := 156) (as := [.ref 40, .int 59]) (pc := 44) (ll := [some (.ref 40), some (.int x1)]) (st := []) (c1 := 0) (s1 := 0) (g := (ab_G mi6 ml7)) rfl ⟨trivial, trivial, trivial⟩ hc ?_
      refine ab_wk 3 (f' := (if (mi8 40 8) = 0 then 51 else 68, [some (.ref 40), some (.int x1)], [], 0, 0, (ab_G mi8 ml9))) rfl ⟨trivial, trivial, trivial, trivial⟩ ?_
      refine ab_wi (fun c => ?_) (fun c => ?_)
      · have h := h.1 c
        obtain ⟨p0, h⟩ := h
        refine ab_wk 6 (f' := (if (mi8 42 ((mi8 40 7)).toNatClampNeg) = 0 then 68 else 63, [some (.ref 40), some (.int x1)], [], 0, 0, (ab_G mi8 ml9))) rfl ⟨trivial, trivial, trivial, trivial, p0, trivial, trivial⟩ ?_
        refine ab_wi (fun c => ?_) (fun c => ?_)
        · have h := h.1 c
          refine ab_wk 3 (f' := (if (mi8 40 8) = 0 then 75 else 121, [some (.ref 40), some (.int x1)], [], 0, 0, (ab_G mi8 ml9))) rfl ⟨trivial, trivial, trivial, trivial⟩ ?_
          refine ab_wi (fun c => ?_) (fun c => ?_)
          · have h := h.1 c
            obtain ⟨p0, p1, p2, h⟩ := h
            exact ab_wr 29 rfl ⟨trivial, trivial, trivial, trivial, trivial, p0, trivial, trivial, trivial, trivial, trivial, trivial, p1, trivial, trivial, trivial, trivial, trivial, trivial, p2, trivial, trivial, trivial, trivial, trivial, trivial, trivial, trivial, trivial⟩ h
          · have h := h.2 c
            exact ab_wr 3 rfl ⟨trivial, trivial, trivial⟩ h
        · have h := h.2 c
          obtain ⟨mi10, ml11, hc, h⟩ := h
          refine ab_wc 3 (c := 153) (as := [.ref 40, .int 1]) (pc := 68) (ll := [some (.ref 40), some (.int x1)]) (st := []) (c1 := 0) (s1 := 0) (g := (ab_G mi8 ml9)) rfl ⟨trivial, trivial, trivial⟩ hc ?_
          refine ab_wk 3 (f' := (if (mi10 40 8) = 0 then 75 else 121, [some (.ref 40), some (.int x1)], [], 0, 0, (ab_G mi10 ml11))) rfl ⟨trivial, trivial, trivial, trivial⟩ ?_
          refine ab_wi (fun c => ?_) (fun c => ?_)
          · have h := h.1 c
            obtain ⟨p0, p1, p2, h⟩ := h
            exact ab_wr 29 rfl ⟨trivial, trivial, trivial, trivial, trivial, p0, trivial, trivial, trivial, trivial, trivial, trivial, p1, trivial, trivial, trivial, trivial, trivial, trivial, p2, trivial, trivial, trivial, trivial, trivial, trivial, trivial, trivial, trivial⟩ h
          · have h := h.2 c
            exact ab_wr 3 rfl ⟨trivial, trivial, trivial⟩ h
      · have h := h.2 c
        refine ab_wk 3 (f' := (if (mi8 40 8) = 0 then 75 else 121, [some (.ref 40), some (.int x1)], [], 0, 0, (ab_G mi8 ml9))) rfl ⟨trivial, trivial, trivial, trivial⟩ ?_
        refine ab_wi (fun c => ?_) (fun c => ?_)
        · have h := h.1 c
          obtain ⟨p0, p1, p2, h⟩ := h
          exact ab_wr 29 rfl ⟨trivial, trivial, trivial, trivial, trivial, p0, trivial, trivial, trivial, trivial, trivial, trivial, p1, trivial, trivial, trivial, trivial, trivial, trivial, p2, trivial, trivial, trivial, trivial, trivial, trivial, trivial, trivial, trivial⟩ h
        · have h := h.2 c
          exact ab_wr 3 rfl ⟨trivial, trivial, trivial⟩ h
theorem vc_X12_caseAgainst_0 {call : Nat → List Value → ab_S → Option Value → ab_S → Prop} {ro : ab_E} {Q : Option Value → ab_S → Prop} (x1 : Int32) (mi : Nat → Nat → Int32) (ml : Nat → Nat → Int64)
    (h : ab_W call ro 0 0 (ab_lk2 pl_X12_caseAgainst) Q (2, [some (.ref 40), some (.int x1), some (.int 0)], [], 0, 0, (ab_G mi ml))) :
    ab_W call ro 0 0 (ab_lk2 pl_X12_caseAgainst) Q (0, [some (.ref 40), some (.int x1), none], [], 0, 0, ab_G mi ml) := by
  exact ab_wk 2 (f' := (2, [some (.ref 40), some (.int x1), some (.int 0)], [], 0, 0, (ab_G mi ml))) rfl ⟨trivial, trivial, trivial⟩ h
theorem vc_X12_caseAgainst_2 {call : Nat → List Value → ab_S → Option Value → ab_S → Prop} {ro : ab_E} {Q : Option Value → ab_S → Prop} (y1 : Int32) (y2 : Int32) (mi : Nat → Nat → Int32) (ml : Nat → Nat → Int64)
    (h : ((y2 < (mi 40 69)) → (vp_in y2 40 ∧ (∃ (r3 : Int32) (mi1 : Nat → Nat → Int32) (ml2 : Nat → Nat → Int64), call 181 [.ref 40] (ab_G mi ml) (some (.int r3)) (ab_G mi1 ml2) ∧ (((r3 < (mi 82 (y2).toNatClampNeg)) → (ab_W call ro 0 0 (ab_lk2 pl_X12_caseAgainst) Q (2, [some (.ref 40), some (.int y1), some (.int (y2 + 1))], [], 0, 0, (ab_G mi1 ml2)))) ∧ (¬ (r3 < (mi 82 (y2).toNatClampNeg)) → (vp_in y1 20 ∧ (vp_in y1 20 ∧ (vp_in y2 40 ∧ (∃ (r6 : Int32) (mi4 : Nat → Nat → Int32) (ml5 : Nat → Nat → Int64), call 160 [.long (ml2 62 (y1).toNatClampNeg), .long (ml2 63 (y1).toNatClampNeg), .int (mi1 81 (y2).toNatClampNeg)] (ab_G mi1 ml2) (some (.int r6)) (ab_G mi4 ml5) ∧ (((r6 = 0) → (Q (some (.int y2)) (ab_G mi4 ml5))) ∧ (¬ (r6 = 0) → (ab_W call ro 0 0 (ab_lk2 pl_X12_caseAgainst) Q (2, [some (.ref 40), some (.int y1), some (.int (y2 + 1))], [], 0, 0, (ab_G mi4 ml5)))))))))))))) ∧ (¬ (y2 < (mi 40 69)) → (Q (some (.int (-1))) (ab_G mi ml)))) :
    ab_W call ro 0 0 (ab_lk2 pl_X12_caseAgainst) Q (2, [some (.ref 40), some (.int y1), some (.int y2)], [], 0, 0, ab_G mi ml) := by
  refine ab_wk 4 (f' := (if y2 < (mi 40 69) then 10 else 55, [some (.ref 40), some (.int y1), some (.int y2)], [], 0, 0, (ab_G mi ml))) rfl ⟨trivial, trivial, trivial, trivial, trivial⟩ ?_
  refine ab_wi (fun c => ?_) (fun c => ?_)
  · have h := h.1 c
    obtain ⟨p0, h⟩ := h
    obtain ⟨r3, mi1, ml2, hc, h⟩ := h
    refine ab_wc 6 (c := 181) (as := [.ref 40]) (pc := 20) (ll := [some (.ref 40), some (.int y1), some (.int y2)]) (st := [.int (mi 82 (y2).toNatClampNeg)]) (c1 := 0) (s1 := 0) (g := (ab_G mi ml)) rfl ⟨trivial, trivial, trivial, p0, trivial, trivial⟩ hc ?_
    refine ab_wk 1 (f' := (if r3 < (mi 82 (y2).toNatClampNeg) then 49 else 23, [some (.ref 40), some (.int y1), some (.int y2)], [], 0, 0, (ab_G mi1 ml2))) rfl ⟨trivial, trivial⟩ ?_
    refine ab_wi (fun c => ?_) (fun c => ?_)
    · have h := h.1 c
      exact ab_wk 2 (f' := (2, [some (.ref 40), some (.int y1), some (.int (y2 + 1))], [], 0, 0, (ab_G mi1 ml2))) rfl ⟨trivial, trivial, trivial⟩ h
    · have h := h.2 c
      obtain ⟨p0, p1, p2, h⟩ := h
      obtain ⟨r6, mi4, ml5, hc, h⟩ := h
      refine ab_wc 13 (c := 160) (as := [.long (ml2 62 (y1).toNatClampNeg), .long (ml2 63 (y1).toNatClampNeg), .int (mi1 81 (y2).toNatClampNeg)]) (pc := 44) (ll := [some (.ref 40), some (.int y1), some (.int y2)]) (st := []) (c1 := 0) (s1 := 0) (g := (ab_G mi1 ml2)) rfl ⟨trivial, trivial, trivial, p0, trivial, trivial, trivial, p1, trivial, trivial, trivial, p2, trivial⟩ hc ?_
      refine ab_wk 1 (f' := (if r6 = 0 then 47 else 49, [some (.ref 40), some (.int y1), some (.int y2)], [], 0, 0, (ab_G mi4 ml5))) rfl ⟨trivial, trivial⟩ ?_
      refine ab_wi (fun c => ?_) (fun c => ?_)
      · have h := h.1 c
        exact ab_wr 2 rfl ⟨trivial, trivial⟩ h
      · have h := h.2 c
        exact ab_wk 2 (f' := (2, [some (.ref 40), some (.int y1), some (.int (y2 + 1))], [], 0, 0, (ab_G mi4 ml5))) rfl ⟨trivial, trivial, trivial⟩ h
  · have h := h.2 c
    exact ab_wr 2 rfl ⟨trivial, trivial⟩ h
theorem vc_X12_isHeld_0 {call : Nat → List Value → ab_S → Option Value → ab_S → Prop} {ro : ab_E} {Q : Option Value → ab_S → Prop} (x1 : Int32) (mi : Nat → Nat → Int32) (ml : Nat → Nat → Int64)
    (h : ∃ (r3 : Int32) (mi1 : Nat → Nat → Int32) (ml2 : Nat → Nat → Int64), call 238 [.ref 40] (ab_G mi ml) (some (.int r3)) (ab_G mi1 ml2) ∧ (((0 < r3) → (∃ (r6 : Int32) (mi4 : Nat → Nat → Int32) (ml5 : Nat → Nat → Int64), call 173 [.ref 40, .int x1] (ab_G mi1 ml2) (some (.int r6)) (ab_G mi4 ml5) ∧ (((r6 < 0) → (Q (some (.int 1)) (ab_G mi4 ml5))) ∧ (¬ (r6 < 0) → (Q (some (.int 0)) (ab_G mi4 ml5)))))) ∧ (¬ (0 < r3) → (Q (some (.int 0)) (ab_G mi1 ml2))))) :
    ab_W call ro 0 0 (ab_lk2 pl_X12_isHeld) Q (0, [some (.ref 40), some (.int x1)], [], 0, 0, ab_G mi ml) := by
  obtain ⟨r3, mi1, ml2, hc, h⟩ := h
  refine ab_wc 2 (c := 238) (as := [.ref 40]) (pc := 4) (ll := [some (.ref 40), some (.int x1)]) (st := []) (c1 := 0) (s1 := 0) (g := (ab_G mi ml)) rfl ⟨trivial, trivial⟩ hc ?_
  refine ab_wk 1 (f' := (if 0 < r3 then 7 else 19, [some (.ref 40), some (.int x1)], [], 0, 0, (ab_G mi1 ml2))) rfl ⟨trivial, trivial⟩ ?_
  refine ab_wi (fun c => ?_) (fun c => ?_)
  · have h := h.1 c
    obtain ⟨r6, mi4, ml5, hc, h⟩ := h
    refine ab_wc 3 (c := 173) (as := [.ref 40, .int x1]) (pc := 12) (ll := [some (.ref 40), some (.int x1)]) (st := []) (c1 := 0) (s1 := 0) (g := (ab_G mi1 ml2)) rfl ⟨trivial, trivial, trivial⟩ hc ?_
    refine ab_wk 1 (f' := (if r6 < 0 then 15 else 19, [some (.ref 40), some (.int x1)], [], 0, 0, (ab_G mi4 ml5))) rfl ⟨trivial, trivial⟩ ?_
    refine ab_wi (fun c => ?_) (fun c => ?_)
    · have h := h.1 c
      exact ab_wr 3 rfl ⟨trivial, trivial, (Or.inr rfl)⟩ h
    · have h := h.2 c
      exact ab_wr 2 rfl ⟨trivial, (Or.inl rfl)⟩ h
  · have h := h.2 c
    exact ab_wr 2 rfl ⟨trivial, (Or.inl rfl)⟩ h
theorem vc_X12_held_0 {call : Nat → List Value → ab_S → Option Value → ab_S → Prop} {ro : ab_E} {Q : Option Value → ab_S → Prop} (x1 : Int32) (x2 : Int32) (mi : Nat → Nat → Int32) (ml : Nat → Nat → Int64)
    (h : ((x1 < 0) → (Q (some (.int (-1))) (ab_G (ab_ui mi 40 0 0) ml))) ∧ (¬ (x1 < 0) → (((x1 < (mi 40 30)) → (∃ (r3 : Int32) (mi1 : Nat → Nat → Int32) (ml2 : Nat → Nat → Int64), call 178 [.int x2, .int 0, .int 2] (ab_G (ab_ui mi 40 0 0) ml) (some (.int r3)) (ab_G mi1 ml2) ∧ (((r3 = 0) → (Q (some (.int (-1))) (ab_G mi1 ml2))) ∧ (¬ (r3 = 0) → (((x2 = 0) → (∃ (r6 : Int32) (mi4 : Nat → Nat → Int32) (ml5 : Nat → Nat → Int64), call 174 [.ref 40, .int x1] (ab_G mi1 ml2) (some (.int r6)) (ab_G mi4 ml5) ∧ (((r6 = 0) → (Q (some (.int 0)) (ab_G mi4 ml5))) ∧ (¬ (r6 = 0) → (Q (some (.int 1)) (ab_G mi4 ml5)))))) ∧ (¬ (x2 = 0) → (((x2 = 1) → (∃ (r9 : Int32) (mi7 : Nat → Nat → Int32) (ml8 : Nat → Nat → Int64), call 173 [.ref 40, .int x1] (ab_G mi1 ml2) (some (.int r9)) (ab_G mi7 ml8) ∧ (Q (some (.int r9)) (ab_G mi7 ml8)))) ∧ (¬ (x2 = 1) → (vp_in x1 20 ∧ (Q (some (.int (mi1 61 (x1).toNatClampNeg))) (ab_G mi1 ml2))))))))))) ∧ (¬ (x1 < (mi 40 30)) → (Q (some (.int (-1))) (ab_G (ab_ui mi 40 0 0) ml)))))) :
    ab_W call ro 0 0 (ab_lk2 pl_X12_held) Q (0, [some (.ref 40), some (.int x1), some (.int x2)], [], 0, 0, ab_G mi ml) := by
  refine ab_wk 5 (f' := (if x1 < 0 then 26 else 9, [some (.ref 40), some (.int x1), some (.int x2)], [], 0, 0, (ab_G (ab_ui mi 40 0 0) ml))) rfl ⟨trivial, trivial, trivial, trivial, trivial, trivial⟩ ?_
  refine ab_wi (fun c => ?_) (fun c => ?_)
  · have h := h.1 c
    exact ab_wr 2 rfl ⟨trivial, trivial⟩ h
  · have h := h.2 c
    refine ab_wk 4 (f' := (if x1 < (mi 40 30) then 17 else 26, [some (.ref 40), some (.int x1), some (.int x2)], [], 0, 0, (ab_G (ab_ui mi 40 0 0) ml))) rfl ⟨trivial, trivial, trivial, trivial, trivial⟩ ?_
    refine ab_wi (fun c => ?_) (fun c => ?_)
    · have h := h.1 c
      obtain ⟨r3, mi1, ml2, hc, h⟩ := h
      refine ab_wc 4 (c := 178) (as := [.int x2, .int 0, .int 2]) (pc := 23) (ll := [some (.ref 40), some (.int x1), some (.int x2)]) (st := []) (c1 := 0) (s1 := 0) (g := (ab_G (ab_ui mi 40 0 0) ml)) rfl ⟨trivial, trivial, trivial, trivial⟩ hc ?_
      refine ab_wk 1 (f' := (if r3 = 0 then 26 else 28, [some (.ref 40), some (.int x1), some (.int x2)], [], 0, 0, (ab_G mi1 ml2))) rfl ⟨trivial, trivial⟩ ?_
      refine ab_wi (fun c => ?_) (fun c => ?_)
      · have h := h.1 c
        exact ab_wr 2 rfl ⟨trivial, trivial⟩ h
      · have h := h.2 c
        refine ab_wk 2 (f' := (if x2 = 0 then 32 else 48, [some (.ref 40), some (.int x1), some (.int x2)], [], 0, 0, (ab_G mi1 ml2))) rfl ⟨trivial, trivial, trivial⟩ ?_
        refine ab_wi (fun c => ?_) (fun c => ?_)
        · have h := h.1 c
          obtain ⟨r6, mi4, ml5, hc, h⟩ := h
          refine ab_wc 3 (c := 174) (as := [.ref 40, .int x1]) (pc := 37) (ll := [some (.ref 40), some (.int x1), some (.int x2)]) (st := []) (c1 := 0) (s1 := 0) (g := (ab_G mi1 ml2)) rfl ⟨trivial, trivial, trivial⟩ hc ?_
          refine ab_wk 1 (f' := (if r6 = 0 then 44 else 40, [some (.ref 40), some (.int x1), some (.int x2)], [], 0, 0, (ab_G mi4 ml5))) rfl ⟨trivial, trivial⟩ ?_
          refine ab_wi (fun c => ?_) (fun c => ?_)
          · have h := h.1 c
            exact ab_wr 3 rfl ⟨trivial, trivial, trivial⟩ h
          · have h := h.2 c
            exact ab_wr 3 rfl ⟨trivial, trivial, trivial⟩ h
        · have h := h.2 c
          refine ab_wk 3 (f' := (if x2 = 1 then 53 else 61, [some (.ref 40), some (.int x1), some (.int x2)], [], 0, 0, (ab_G mi1 ml2))) rfl ⟨trivial, trivial, trivial, trivial⟩ ?_
          refine ab_wi (fun c => ?_) (fun c => ?_)
          · have h := h.1 c
            obtain ⟨r9, mi7, ml8, hc, h⟩ := h
            refine ab_wc 3 (c := 173) (as := [.ref 40, .int x1]) (pc := 58) (ll := [some (.ref 40), some (.int x1), some (.int x2)]) (st := []) (c1 := 0) (s1 := 0) (g := (ab_G mi1 ml2)) rfl ⟨trivial, trivial, trivial⟩ hc ?_
            exact ab_wr 2 rfl ⟨trivial, trivial⟩ h
          · have h := h.2 c
            obtain ⟨p0, h⟩ := h
            exact ab_wr 5 rfl ⟨trivial, trivial, trivial, p0, trivial⟩ h
    · have h := h.2 c
      exact ab_wr 2 rfl ⟨trivial, trivial⟩ h
theorem vc_X12_takeLine_0 {call : Nat → List Value → ab_S → Option Value → ab_S → Prop} {ro : ab_E} {Q : Option Value → ab_S → Prop}  (mi : Nat → Nat → Int32) (ml : Nat → Nat → Int64)
    (h : vp_in (mi 40 7) 1002 ∧ ((((mi 42 ((mi 40 7)).toNatClampNeg) = 2) → (vp_in (mi 40 7) 1002 ∧ ((((lg_cmp (ml 44 ((mi 40 7)).toNatClampNeg) ((mi 40 12) : Int32).toInt64) < 0) → (((0 < (mi 40 8)) → (Q (some (.int (-1))) (ab_G mi ml))) ∧ (¬ (0 < (mi 40 8)) → (vp_in (((mi 40 7) + 1) - 1) 1002 ∧ (Q (some (.int ((ml 44 ((((mi 40 7) + 1) - 1)).toNatClampNeg)).toInt32)) (ab_G (ab_ui mi 40 7 ((mi 40 7) + 1)) ml)))))) ∧ (¬ ((lg_cmp (ml 44 ((mi 40 7)).toNatClampNeg) ((mi 40 12) : Int32).toInt64) < 0) → (∃ (mi1 : Nat → Nat → Int32) (ml2 : Nat → Nat → Int64), call 153 [.ref 40, .int 4] (ab_G mi ml) none (ab_G mi1 ml2) ∧ (((0 < (mi1 40 8)) → (Q (some (.int (-1))) (ab_G mi1 ml2))) ∧ (¬ (0 < (mi1 40 8)) → (vp_in (((mi1 40 7) + 1) - 1) 1002 ∧ (Q (some (.int ((ml2 44 ((((mi1 40 7) + 1) - 1)).toNatClampNeg)).toInt32)) (ab_G (ab_ui mi1 40 7 ((mi1 40 7) + 1)) ml2)))))))))) ∧ (¬ ((mi 42 ((mi 40 7)).toNatClampNeg) = 2) → (∃ (mi3 : Nat → Nat → Int32) (ml4 : Nat → Nat → Int64), call 153 [.ref 40, .int 1] (ab_G mi ml) none (ab_G mi3 ml4) ∧ (((0 < (mi3 40 8)) → (Q (some (.int (-1))) (ab_G mi3 ml4))) ∧ (¬ (0 < (mi3 40 8)) → (vp_in (((mi3 40 7) + 1) - 1) 1002 ∧ (Q (some (.int ((ml4 44 ((((mi3 40 7) + 1) - 1)).toNatClampNeg)).toInt32)) (ab_G (ab_ui mi3 40 7 ((mi3 40 7) + 1)) ml4))))))))) :
    ab_W call ro 0 0 (ab_lk2 pl_X12_takeLine) Q (0, [some (.ref 40)], [], 0, 0, ab_G mi ml) := by
  obtain ⟨p0, h⟩ := h
  refine ab_wk 7 (f' := (if (mi 42 ((mi 40 7)).toNatClampNeg) = 2 then 21 else 13, [some (.ref 40)], [], 0, 0, (ab_G mi ml))) rfl ⟨trivial, trivial, trivial, trivial, p0, trivial, trivial, trivial⟩ ?_
  refine ab_wi (fun c => ?_) (fun c => ?_)
  · have h := h.1 c
    obtain ⟨p0, h⟩ := h
    refine ab_wk 10 (f' := (if (lg_cmp (ml 44 ((mi 40 7)).toNatClampNeg) ((mi 40 12) : Int32).toInt64) < 0 then 44 else 39, [some (.ref 40)], [], 0, 0, (ab_G mi ml))) rfl ⟨trivial, trivial, trivial, trivial, p0, trivial, trivial, trivial, trivial, trivial, trivial⟩ ?_
    refine ab_wi (fun c => ?_) (fun c => ?_)
    · have h := h.1 c
      refine ab_wk 3 (f' := (if 0 < (mi 40 8) then 51 else 53, [some (.ref 40)], [], 0, 0, (ab_G mi ml))) rfl ⟨trivial, trivial, trivial, trivial⟩ ?_
      refine ab_wi (fun c => ?_) (fun c => ?_)
      · have h := h.1 c
        exact ab_wr 2 rfl ⟨trivial, trivial⟩ h
      · have h := h.2 c
        obtain ⟨p0, h⟩ := h
        exact ab_wr 15 rfl ⟨trivial, trivial, trivial, trivial, trivial, trivial, trivial, trivial, trivial, trivial, trivial, trivial, p0, trivial, trivial⟩ h
    · have h := h.2 c
      obtain ⟨mi1, ml2, hc, h⟩ := h
      refine ab_wc 3 (c := 153) (as := [.ref 40, .int 4]) (pc := 44) (ll := [some (.ref 40)]) (st := []) (c1 := 0) (s1 := 0) (g := (ab_G mi ml)) rfl ⟨trivial, trivial, trivial⟩ hc ?_
      refine ab_wk 3 (f' := (if 0 < (mi1 40 8) then 51 else 53, [some (.ref 40)], [], 0, 0, (ab_G mi1 ml2))) rfl ⟨trivial, trivial, trivial, trivial⟩ ?_
      refine ab_wi (fun c => ?_) (fun c => ?_)
      · have h := h.1 c
        exact ab_wr 2 rfl ⟨trivial, trivial⟩ h
      · have h := h.2 c
        obtain ⟨p0, h⟩ := h
        exact ab_wr 15 rfl ⟨trivial, trivial, trivial, trivial, trivial, trivial, trivial, trivial, trivial, trivial, trivial, trivial, p0, trivial, trivial⟩ h
  · have h := h.2 c
    obtain ⟨mi3, ml4, hc, h⟩ := h
    refine ab_wc 3 (c := 153) (as := [.ref 40, .int 1]) (pc := 18) (ll := [some (.ref 40)]) (st := []) (c1 := 0) (s1 := 0) (g := (ab_G mi ml)) rfl ⟨trivial, trivial, trivial⟩ hc ?_
    refine ab_wk 4 (f' := (if 0 < (mi3 40 8) then 51 else 53, [some (.ref 40)], [], 0, 0, (ab_G mi3 ml4))) rfl ⟨trivial, trivial, trivial, trivial, trivial⟩ ?_
    refine ab_wi (fun c => ?_) (fun c => ?_)
    · have h := h.1 c
      exact ab_wr 2 rfl ⟨trivial, trivial⟩ h
    · have h := h.2 c
      obtain ⟨p0, h⟩ := h
      exact ab_wr 15 rfl ⟨trivial, trivial, trivial, trivial, trivial, trivial, trivial, trivial, trivial, trivial, trivial, trivial, p0, trivial, trivial⟩ h
theorem vc_X12_keeps_0 {call : Nat → List Value → ab_S → Option Value → ab_S → Prop} {ro : ab_E} {Q : Option Value → ab_S → Prop} (x1 : Int32) (x2 : Int32) (x3 : Int32) (mi : Nat → Nat → Int32) (ml : Nat → Nat → Int64)
    (h : vp_in (mi 40 20) 30 ∧ (vp_in (mi 40 20) 30 ∧ (vp_in (mi 40 20) 30 ∧ (vp_in (mi 40 20) 30 ∧ (vp_in (mi 40 20) 30 ∧ (vp_in (mi 40 20) 30 ∧ (vp_in (mi 40 20) 30 ∧ (vp_in (mi 40 20) 30 ∧ (Q none (ab_G (ab_ui (ab_ui (ab_ui (ab_ui (ab_ui (ab_ui (ab_ui mi 52 ((mi 40 20)).toNatClampNeg x2) 53 ((mi 40 20)).toNatClampNeg x3) 54 ((mi 40 20)).toNatClampNeg (vp_nar .boolean (mi 49 0))) 57 ((mi 40 20)).toNatClampNeg x1) 58 ((mi 40 20)).toNatClampNeg (mi 40 34)) 59 ((mi 40 20)).toNatClampNeg (-1)) 40 20 ((mi 40 20) + 1)) (ab_ul (ab_ul ml 55 ((mi 40 20)).toNatClampNeg (ml 50 0)) 56 ((mi 40 20)).toNatClampNeg (ml 51 0)))))))))))) :
    ab_W call ro 0 0 (ab_lk2 pl_X12_keeps) Q (0, [some (.ref 40), some (.int x1), some (.int x2), some (.int x3)], [], 0, 0, ab_G mi ml) := by
  obtain ⟨p0, p1, p2, p3, p4, p5, p6, p7, h⟩ := h
  exact ab_wr 65 rfl ⟨trivial, trivial, trivial, trivial, trivial, p0, trivial, trivial, trivial, trivial, trivial, p1, trivial, trivial, trivial, trivial, trivial, trivial, trivial, (by unfold vp_in; decide), p2, trivial, trivial, trivial, trivial, trivial, trivial, trivial, (by unfold vp_in; decide), p3, trivial, trivial, trivial, trivial, trivial, trivial, trivial, (by unfold vp_in; decide), p4, trivial, trivial, trivial, trivial, trivial, p5, trivial, trivial, trivial, trivial, trivial, trivial, p6, trivial, trivial, trivial, trivial, trivial, p7, trivial, trivial, trivial, trivial, trivial, trivial, trivial⟩ h
theorem vc_X12_within_0 {call : Nat → List Value → ab_S → Option Value → ab_S → Prop} {ro : ab_E} {Q : Option Value → ab_S → Prop} (x0 : Int32) (x1 : Int32) (x2 : Int32) (mi : Nat → Nat → Int32) (ml : Nat → Nat → Int64)
    (h : ((x0 < x1) → (Q (some (.int 0)) (ab_G mi ml))) ∧ (¬ (x0 < x1) → (((x2 < x0) → (Q (some (.int 0)) (ab_G mi ml))) ∧ (¬ (x2 < x0) → (Q (some (.int 1)) (ab_G mi ml)))))) :
    ab_W call ro 0 0 (ab_lk2 pl_X12_within) Q (0, [some (.int x0), some (.int x1), some (.int x2)], [], 0, 0, ab_G mi ml) := by
  refine ab_wk 3 (f' := (if x0 < x1 then 14 else 5, [some (.int x0), some (.int x1), some (.int x2)], [], 0, 0, (ab_G mi ml))) rfl ⟨trivial, trivial, trivial, trivial⟩ ?_
  refine ab_wi (fun c => ?_) (fun c => ?_)
  · have h := h.1 c
    exact ab_wr 2 rfl ⟨trivial, (Or.inl rfl)⟩ h
  · have h := h.2 c
    refine ab_wk 3 (f' := (if x2 < x0 then 14 else 10, [some (.int x0), some (.int x1), some (.int x2)], [], 0, 0, (ab_G mi ml))) rfl ⟨trivial, trivial, trivial, trivial⟩ ?_
    refine ab_wi (fun c => ?_) (fun c => ?_)
    · have h := h.1 c
      exact ab_wr 2 rfl ⟨trivial, (Or.inl rfl)⟩ h
    · have h := h.2 c
      exact ab_wr 3 rfl ⟨trivial, trivial, (Or.inr rfl)⟩ h
theorem vc_X12_days_0 {call : Nat → List Value → ab_S → Option Value → ab_S → Prop} {ro : ab_E} {Q : Option Value → ab_S → Prop} (x1 : Int32) (mi : Nat → Nat → Int32) (ml : Nat → Nat → Int64)
    (h : ∃ (r3 : Int32) (mi1 : Nat → Nat → Int32) (ml2 : Nat → Nat → Int64), call 178 [.int x1, .int 0, .int 1000] (ab_G (ab_ui mi 40 0 0) ml) (some (.int r3)) (ab_G mi1 ml2) ∧ (((r3 = 0) → (Q (some (.int (-1))) (ab_G mi1 ml2))) ∧ (¬ (r3 = 0) → (((9999 < ((mi1 40 34) + x1)) → (Q (some (.int (-1))) (ab_G mi1 ml2))) ∧ (¬ (9999 < ((mi1 40 34) + x1)) → (Q (some (.int ((mi1 40 34) + x1))) (ab_G (ab_ui mi1 40 34 ((mi1 40 34) + x1)) ml2))))))) :
    ab_W call ro 0 0 (ab_lk2 pl_X12_days) Q (0, [some (.ref 40), some (.int x1)], [], 0, 0, ab_G mi ml) := by
  obtain ⟨r3, mi1, ml2, hc, h⟩ := h
  refine ab_wc 7 (c := 178) (as := [.int x1, .int 0, .int 1000]) (pc := 13) (ll := [some (.ref 40), some (.int x1)]) (st := []) (c1 := 0) (s1 := 0) (g := (ab_G (ab_ui mi 40 0 0) ml)) rfl ⟨trivial, trivial, trivial, trivial, trivial, trivial, trivial⟩ hc ?_
  refine ab_wk 1 (f' := (if r3 = 0 then 28 else 16, [some (.ref 40), some (.int x1)], [], 0, 0, (ab_G mi1 ml2))) rfl ⟨trivial, trivial⟩ ?_
  refine ab_wi (fun c => ?_) (fun c => ?_)
  · have h := h.1 c
    exact ab_wr 2 rfl ⟨trivial, trivial⟩ h
  · have h := h.2 c
    refine ab_wk 6 (f' := (if 9999 < ((mi1 40 34) + x1) then 28 else 30, [some (.ref 40), some (.int x1)], [], 0, 0, (ab_G mi1 ml2))) rfl ⟨trivial, trivial, trivial, trivial, trivial, trivial, trivial⟩ ?_
    refine ab_wi (fun c => ?_) (fun c => ?_)
    · have h := h.1 c
      exact ab_wr 2 rfl ⟨trivial, trivial⟩ h
    · have h := h.2 c
      exact ab_wr 9 rfl ⟨trivial, trivial, trivial, trivial, trivial, trivial, trivial, trivial, trivial⟩ h
theorem vc_X12_view_0 {call : Nat → List Value → ab_S → Option Value → ab_S → Prop} {ro : ab_E} {Q : Option Value → ab_S → Prop} (x1 : Int32) (mi : Nat → Nat → Int32) (ml : Nat → Nat → Int64)
    (h : ∃ (r3 : Int32) (mi1 : Nat → Nat → Int32) (ml2 : Nat → Nat → Int64), call 178 [.int x1, .int 0, .int (mi 40 34)] (ab_G (ab_ui mi 40 0 0) ml) (some (.int r3)) (ab_G mi1 ml2) ∧ (((r3 = 0) → (Q (some (.int 0)) (ab_G mi1 ml2))) ∧ (¬ (r3 = 0) → (((x1 = (mi1 40 34)) → (Q (some (.int 1)) (ab_G (ab_ui mi1 40 35 (-1)) ml2))) ∧ (¬ (x1 = (mi1 40 34)) → (Q (some (.int 1)) (ab_G (ab_ui mi1 40 35 x1) ml2))))))) :
    ab_W call ro 0 0 (ab_lk2 pl_X12_view) Q (0, [some (.ref 40), some (.int x1)], [], 0, 0, ab_G mi ml) := by
  obtain ⟨r3, mi1, ml2, hc, h⟩ := h
  refine ab_wc 8 (c := 178) (as := [.int x1, .int 0, .int (mi 40 34)]) (pc := 14) (ll := [some (.ref 40), some (.int x1)]) (st := []) (c1 := 0) (s1 := 0) (g := (ab_G (ab_ui mi 40 0 0) ml)) rfl ⟨trivial, trivial, trivial, trivial, trivial, trivial, trivial, trivial⟩ hc ?_
  refine ab_wk 1 (f' := (if r3 = 0 then 17 else 19, [some (.ref 40), some (.int x1)], [], 0, 0, (ab_G mi1 ml2))) rfl ⟨trivial, trivial⟩ ?_
  refine ab_wi (fun c => ?_) (fun c => ?_)
  · have h := h.1 c
    exact ab_wr 2 rfl ⟨trivial, (Or.inl rfl)⟩ h
  · have h := h.2 c
    refine ab_wk 5 (f' := (if x1 = (mi1 40 34) then 28 else 32, [some (.ref 40), some (.int x1)], [.ref 40], 0, 0, (ab_G mi1 ml2))) rfl ⟨trivial, trivial, trivial, trivial, trivial, trivial⟩ ?_
    refine ab_wi (fun c => ?_) (fun c => ?_)
    · have h := h.1 c
      exact ab_wr 5 rfl ⟨trivial, trivial, trivial, trivial, (Or.inr rfl)⟩ h
    · have h := h.2 c
      exact ab_wr 4 rfl ⟨trivial, trivial, trivial, (Or.inr rfl)⟩ h
theorem vc_X12_viewDay_0 {call : Nat → List Value → ab_S → Option Value → ab_S → Prop} {ro : ab_E} {Q : Option Value → ab_S → Prop}  (mi : Nat → Nat → Int32) (ml : Nat → Nat → Int64)
    (h : (((mi 40 35) < 0) → (Q (some (.int (mi 40 34))) (ab_G mi ml))) ∧ (¬ ((mi 40 35) < 0) → (Q (some (.int (mi 40 35))) (ab_G mi ml)))) :
    ab_W call ro 0 0 (ab_lk2 pl_X12_viewDay) Q (0, [some (.ref 40)], [], 0, 0, ab_G mi ml) := by
  refine ab_wk 3 (f' := (if (mi 40 35) < 0 then 7 else 14, [some (.ref 40)], [], 0, 0, (ab_G mi ml))) rfl ⟨trivial, trivial, trivial, trivial⟩ ?_
  refine ab_wi (fun c => ?_) (fun c => ?_)
  · have h := h.1 c
    exact ab_wr 4 rfl ⟨trivial, trivial, trivial, trivial⟩ h
  · have h := h.2 c
    exact ab_wr 3 rfl ⟨trivial, trivial, trivial⟩ h
theorem vc_X12_isWish_0 {call : Nat → List Value → ab_S → Option Value → ab_S → Prop} {ro : ab_E} {Q : Option Value → ab_S → Prop} (x1 : Int32) (mi : Nat → Nat → Int32) (ml : Nat → Nat → Int64)
    (h : ((x1 < 0) → (Q (some (.int 0)) (ab_G mi ml))) ∧ (¬ (x1 < 0) → (((x1 < (mi 40 20)) → (Q (some (.int 1)) (ab_G mi ml))) ∧ (¬ (x1 < (mi 40 20)) → (Q (some (.int 0)) (ab_G mi ml)))))) :
    ab_W call ro 0 0 (ab_lk2 pl_X12_isWish) Q (0, [some (.ref 40), some (.int x1)], [], 0, 0, ab_G mi ml) := by
  refine ab_wk 2 (f' := (if x1 < 0 then 16 else 4, [some (.ref 40), some (.int x1)], [], 0, 0, (ab_G mi ml))) rfl ⟨trivial, trivial, trivial⟩ ?_
  refine ab_wi (fun c => ?_) (fun c => ?_)
  · have h := h.1 c
    exact ab_wr 2 rfl ⟨trivial, (Or.inl rfl)⟩ h
  · have h := h.2 c
    refine ab_wk 4 (f' := (if x1 < (mi 40 20) then 12 else 16, [some (.ref 40), some (.int x1)], [], 0, 0, (ab_G mi ml))) rfl ⟨trivial, trivial, trivial, trivial, trivial⟩ ?_
    refine ab_wi (fun c => ?_) (fun c => ?_)
    · have h := h.1 c
      exact ab_wr 3 rfl ⟨trivial, trivial, (Or.inr rfl)⟩ h
    · have h := h.2 c
      exact ab_wr 2 rfl ⟨trivial, (Or.inl rfl)⟩ h
theorem vc_X12_isSeen_0 {call : Nat → List Value → ab_S → Option Value → ab_S → Prop} {ro : ab_E} {Q : Option Value → ab_S → Prop} (x1 : Int32) (mi : Nat → Nat → Int32) (ml : Nat → Nat → Int64)
    (h : ∃ (r3 : Int32) (mi1 : Nat → Nat → Int32) (ml2 : Nat → Nat → Int64), call 182 [.ref 40, .int x1] (ab_G mi ml) (some (.int r3)) (ab_G mi1 ml2) ∧ (((r3 = 0) → (Q (some (.int 0)) (ab_G mi1 ml2))) ∧ (¬ (r3 = 0) → (vp_in x1 30 ∧ (∃ (r6 : Int32) (mi4 : Nat → Nat → Int32) (ml5 : Nat → Nat → Int64), call 181 [.ref 40] (ab_G mi1 ml2) (some (.int r6)) (ab_G mi4 ml5) ∧ (((r6 < (mi1 58 (x1).toNatClampNeg)) → (Q (some (.int 0)) (ab_G mi4 ml5))) ∧ (¬ (r6 < (mi1 58 (x1).toNatClampNeg)) → (vp_in x1 30 ∧ ((((mi4 59 (x1).toNatClampNeg) < 0) → (Q (some (.int 1)) (ab_G mi4 ml5))) ∧ (¬ ((mi4 59 (x1).toNatClampNeg) < 0) → (vp_in x1 30 ∧ (∃ (r9 : Int32) (mi7 : Nat → Nat → Int32) (ml8 : Nat → Nat → Int64), call 181 [.ref 40] (ab_G mi4 ml5) (some (.int r9)) (ab_G mi7 ml8) ∧ (((r9 < (mi4 59 (x1).toNatClampNeg)) → (Q (some (.int 1)) (ab_G mi7 ml8))) ∧ (¬ (r9 < (mi4 59 (x1).toNatClampNeg)) → (Q (some (.int 0)) (ab_G mi7 ml8)))))))))))))))) :
    ab_W call ro 0 0 (ab_lk2 pl_X12_isSeen) Q (0, [some (.ref 40), some (.int x1)], [], 0, 0, ab_G mi ml) := by
  obtain ⟨r3, mi1, ml2, hc, h⟩ := h
  refine ab_wc 3 (c := 182) (as := [.ref 40, .int x1]) (pc := 5) (ll := [some (.ref 40), some (.int x1)]) (st := []) (c1 := 0) (s1 := 0) (g := (ab_G mi ml)) rfl ⟨trivial, trivial, trivial⟩ hc ?_
  refine ab_wk 1 (f' := (if r3 = 0 then 47 else 8, [some (.ref 40), some (.int x1)], [], 0, 0, (ab_G mi1 ml2))) rfl ⟨trivial, trivial⟩ ?_
  refine ab_wi (fun c => ?_) (fun c => ?_)
  · have h := h.1 c
    exact ab_wr 2 rfl ⟨trivial, (Or.inl rfl)⟩ h
  · have h := h.2 c
    obtain ⟨p0, h⟩ := h
    obtain ⟨r6, mi4, ml5, hc, h⟩ := h
    refine ab_wc 6 (c := 181) (as := [.ref 40]) (pc := 18) (ll := [some (.ref 40), some (.int x1)]) (st := [.int (mi1 58 (x1).toNatClampNeg)]) (c1 := 0) (s1 := 0) (g := (ab_G mi1 ml2)) rfl ⟨trivial, trivial, trivial, p0, trivial, trivial⟩ hc ?_
    refine ab_wk 1 (f' := (if r6 < (mi1 58 (x1).toNatClampNeg) then 47 else 21, [some (.ref 40), some (.int x1)], [], 0, 0, (ab_G mi4 ml5))) rfl ⟨trivial, trivial⟩ ?_
    refine ab_wi (fun c => ?_) (fun c => ?_)
    · have h := h.1 c
      exact ab_wr 2 rfl ⟨trivial, (Or.inl rfl)⟩ h
    · have h := h.2 c
      obtain ⟨p0, h⟩ := h
      refine ab_wk 5 (f' := (if (mi4 59 (x1).toNatClampNeg) < 0 then 43 else 30, [some (.ref 40), some (.int x1)], [], 0, 0, (ab_G mi4 ml5))) rfl ⟨trivial, trivial, trivial, p0, trivial, trivial⟩ ?_
      refine ab_wi (fun c => ?_) (fun c => ?_)
      · have h := h.1 c
        exact ab_wr 3 rfl ⟨trivial, trivial, (Or.inr rfl)⟩ h
      · have h := h.2 c
        obtain ⟨p0, h⟩ := h
        obtain ⟨r9, mi7, ml8, hc, h⟩ := h
        refine ab_wc 6 (c := 181) (as := [.ref 40]) (pc := 40) (ll := [some (.ref 40), some (.int x1)]) (st := [.int (mi4 59 (x1).toNatClampNeg)]) (c1 := 0) (s1 := 0) (g := (ab_G mi4 ml5)) rfl ⟨trivial, trivial, trivial, p0, trivial, trivial⟩ hc ?_
        refine ab_wk 1 (f' := (if r9 < (mi4 59 (x1).toNatClampNeg) then 43 else 47, [some (.ref 40), some (.int x1)], [], 0, 0, (ab_G mi7 ml8))) rfl ⟨trivial, trivial⟩ ?_
        refine ab_wi (fun c => ?_) (fun c => ?_)
        · have h := h.1 c
          exact ab_wr 3 rfl ⟨trivial, trivial, (Or.inr rfl)⟩ h
        · have h := h.2 c
          exact ab_wr 2 rfl ⟨trivial, (Or.inl rfl)⟩ h
theorem vc_X12_withdraw_0 {call : Nat → List Value → ab_S → Option Value → ab_S → Prop} {ro : ab_E} {Q : Option Value → ab_S → Prop} (x1 : Int32) (mi : Nat → Nat → Int32) (ml : Nat → Nat → Int64)
    (h : ∃ (r3 : Int32) (mi1 : Nat → Nat → Int32) (ml2 : Nat → Nat → Int64), call 182 [.ref 40, .int x1] (ab_G (ab_ui mi 40 0 0) ml) (some (.int r3)) (ab_G mi1 ml2) ∧ (((r3 = 0) → (Q (some (.int 0)) (ab_G mi1 ml2))) ∧ (¬ (r3 = 0) → (vp_in x1 30 ∧ ((((mi1 59 (x1).toNatClampNeg) < 0) → (vp_in x1 30 ∧ (Q (some (.int 1)) (ab_G (ab_ui mi1 59 (x1).toNatClampNeg (mi1 40 34)) ml2)))) ∧ (¬ ((mi1 59 (x1).toNatClampNeg) < 0) → (Q (some (.int 0)) (ab_G mi1 ml2)))))))) :
    ab_W call ro 0 0 (ab_lk2 pl_X12_withdraw) Q (0, [some (.ref 40), some (.int x1)], [], 0, 0, ab_G mi ml) := by
  obtain ⟨r3, mi1, ml2, hc, h⟩ := h
  refine ab_wc 6 (c := 182) (as := [.ref 40, .int x1]) (pc := 10) (ll := [some (.ref 40), some (.int x1)]) (st := []) (c1 := 0) (s1 := 0) (g := (ab_G (ab_ui mi 40 0 0) ml)) rfl ⟨trivial, trivial, trivial, trivial, trivial, trivial⟩ hc ?_
  refine ab_wk 1 (f' := (if r3 = 0 then 22 else 13, [some (.ref 40), some (.int x1)], [], 0, 0, (ab_G mi1 ml2))) rfl ⟨trivial, trivial⟩ ?_
  refine ab_wi (fun c => ?_) (fun c => ?_)
  · have h := h.1 c
    exact ab_wr 2 rfl ⟨trivial, (Or.inl rfl)⟩ h
  · have h := h.2 c
    obtain ⟨p0, h⟩ := h
    refine ab_wk 5 (f' := (if (mi1 59 (x1).toNatClampNeg) < 0 then 24 else 22, [some (.ref 40), some (.int x1)], [], 0, 0, (ab_G mi1 ml2))) rfl ⟨trivial, trivial, trivial, p0, trivial, trivial⟩ ?_
    refine ab_wi (fun c => ?_) (fun c => ?_)
    · have h := h.1 c
      obtain ⟨p0, h⟩ := h
      exact ab_wr 8 rfl ⟨trivial, trivial, trivial, trivial, trivial, p0, trivial, (Or.inr rfl)⟩ h
    · have h := h.2 c
      exact ab_wr 2 rfl ⟨trivial, (Or.inl rfl)⟩ h
theorem vc_X12_house_0 {call : Nat → List Value → ab_S → Option Value → ab_S → Prop} {ro : ab_E} {Q : Option Value → ab_S → Prop} (x1 : Int32) (x2 : Int32) (mi : Nat → Nat → Int32) (ml : Nat → Nat → Int64)
    (h : ∃ (r3 : Int32) (mi1 : Nat → Nat → Int32) (ml2 : Nat → Nat → Int64), call 178 [.int x1, .int 0, .int 99] (ab_G (ab_ui mi 40 0 0) ml) (some (.int r3)) (ab_G mi1 ml2) ∧ (((r3 = 0) → (Q (some (.int 0)) (ab_G mi1 ml2))) ∧ (¬ (r3 = 0) → (∃ (r6 : Int32) (mi4 : Nat → Nat → Int32) (ml5 : Nat → Nat → Int64), call 178 [.int x2, .int 0, .int 6] (ab_G mi1 ml2) (some (.int r6)) (ab_G mi4 ml5) ∧ (((r6 = 0) → (Q (some (.int 0)) (ab_G mi4 ml5))) ∧ (¬ (r6 = 0) → (vp_in x1 100 ∧ (Q (some (.int 1)) (ab_G (ab_ui mi4 60 (x1).toNatClampNeg x2) ml5))))))))) :
    ab_W call ro 0 0 (ab_lk2 pl_X12_house) Q (0, [some (.ref 40), some (.int x1), some (.int x2)], [], 0, 0, ab_G mi ml) := by
  obtain ⟨r3, mi1, ml2, hc, h⟩ := h
  refine ab_wc 7 (c := 178) (as := [.int x1, .int 0, .int 99]) (pc := 12) (ll := [some (.ref 40), some (.int x1), some (.int x2)]) (st := []) (c1 := 0) (s1 := 0) (g := (ab_G (ab_ui mi 40 0 0) ml)) rfl ⟨trivial, trivial, trivial, trivial, trivial, trivial, trivial⟩ hc ?_
  refine ab_wk 1 (f' := (if r3 = 0 then 25 else 15, [some (.ref 40), some (.int x1), some (.int x2)], [], 0, 0, (ab_G mi1 ml2))) rfl ⟨trivial, trivial⟩ ?_
  refine ab_wi (fun c => ?_) (fun c => ?_)
  · have h := h.1 c
    exact ab_wr 2 rfl ⟨trivial, (Or.inl rfl)⟩ h
  · have h := h.2 c
    obtain ⟨r6, mi4, ml5, hc, h⟩ := h
    refine ab_wc 4 (c := 178) (as := [.int x2, .int 0, .int 6]) (pc := 22) (ll := [some (.ref 40), some (.int x1), some (.int x2)]) (st := []) (c1 := 0) (s1 := 0) (g := (ab_G mi1 ml2)) rfl ⟨trivial, trivial, trivial, trivial⟩ hc ?_
    refine ab_wk 1 (f' := (if r6 = 0 then 25 else 27, [some (.ref 40), some (.int x1), some (.int x2)], [], 0, 0, (ab_G mi4 ml5))) rfl ⟨trivial, trivial⟩ ?_
    refine ab_wi (fun c => ?_) (fun c => ?_)
    · have h := h.1 c
      exact ab_wr 2 rfl ⟨trivial, (Or.inl rfl)⟩ h
    · have h := h.2 c
      obtain ⟨p0, h⟩ := h
      exact ab_wr 7 rfl ⟨trivial, trivial, trivial, trivial, p0, trivial, (Or.inr rfl)⟩ h
theorem vc_X12_lay__0 {call : Nat → List Value → ab_S → Option Value → ab_S → Prop} {ro : ab_E} {Q : Option Value → ab_S → Prop} (x1 : Int32) (x2 : Int64) (x4 : Int64) (mi : Nat → Nat → Int32) (ml : Nat → Nat → Int64)
    (h : vp_in (mi 40 36) 42 ∧ (vp_in (mi 40 36) 42 ∧ (vp_in (mi 40 36) 42 ∧ (Q none (ab_G (ab_ui (ab_ui mi 64 ((mi 40 36)).toNatClampNeg (vp_nar .boolean x1)) 40 36 ((mi 40 36) + 1)) (ab_ul (ab_ul ml 65 ((mi 40 36)).toNatClampNeg x2) 66 ((mi 40 36)).toNatClampNeg x4)))))) :
    ab_W call ro 0 0 (ab_lk2 pl_X12_lay_) Q (0, [some (.ref 40), some (.int x1), some (.long x2), none, some (.long x4), none], [], 0, 0, ab_G mi ml) := by
  obtain ⟨p0, p1, p2, h⟩ := h
  exact ab_wr 25 rfl ⟨trivial, trivial, trivial, trivial, trivial, p0, trivial, trivial, trivial, trivial, trivial, p1, trivial, trivial, trivial, trivial, trivial, p2, trivial, trivial, trivial, trivial, trivial, trivial, trivial⟩ h
theorem vc_X12_builds_0 {call : Nat → List Value → ab_S → Option Value → ab_S → Prop} {ro : ab_E} {Q : Option Value → ab_S → Prop}  (mi : Nat → Nat → Int32) (ml : Nat → Nat → Int64)
    (h : ab_W call ro 0 0 (ab_lk2 pl_X12_builds) Q (7, [some (.ref 40), some (.int 0), none, none, none], [], 0, 0, (ab_G (ab_ui mi 40 36 0) ml))) :
    ab_W call ro 0 0 (ab_lk2 pl_X12_builds) Q (0, [some (.ref 40), none, none, none, none], [], 0, 0, ab_G mi ml) := by
  exact ab_wk 5 (f' := (7, [some (.ref 40), some (.int 0), none, none, none], [], 0, 0, (ab_G (ab_ui mi 40 36 0) ml))) rfl ⟨trivial, trivial, trivial, trivial, trivial, trivial⟩ h
theorem vc_X12_builds_7 {call : Nat → List Value → ab_S → Option Value → ab_S → Prop} {ro : ab_E} {Q : Option Value → ab_S → Prop} (y1 : Int32) (mi : Nat → Nat → Int32) (ml : Nat → Nat → Int64)
    (h : ((y1 < (mi 40 12)) → (ab_W call ro 0 0 (ab_lk2 pl_X12_builds) Q (27, [some (.ref 40), some (.int y1), some (.int (-1)), some (.int 0), some (.int ((mi 40 20) - 1))], [], 0, 0, (ab_G mi ml)))) ∧ (¬ (y1 < (mi 40 12)) → (ab_W call ro 0 0 (ab_lk2 pl_X12_builds) Q (185, [some (.ref 40), some (.int 0), none, none, none], [], 0, 0, (ab_G mi ml))))) :
    ab_W call ro 0 0 (ab_lk2 pl_X12_builds) Q (7, [some (.ref 40), some (.int y1), none, none, none], [], 0, 0, ab_G mi ml) := by
  refine ab_wk 4 (f' := (if y1 < (mi 40 12) then 15 else 183, [some (.ref 40), some (.int y1), none, none, none], [], 0, 0, (ab_G mi ml))) rfl ⟨trivial, trivial, trivial, trivial, trivial⟩ ?_
  refine ab_wi (fun c => ?_) (fun c => ?_)
  · have h := h.1 c
    exact ab_wk 9 (f' := (27, [some (.ref 40), some (.int y1), some (.int (-1)), some (.int 0), some (.int ((mi 40 20) - 1))], [], 0, 0, (ab_G mi ml))) rfl ⟨trivial, trivial, trivial, trivial, trivial, trivial, trivial, trivial, trivial, trivial⟩ h
  · have h := h.2 c
    exact ab_wk 2 (f' := (185, [some (.ref 40), some (.int 0), none, none, none], [], 0, 0, (ab_G mi ml))) rfl ⟨trivial, trivial, trivial⟩ h
theorem vc_X12_builds_185 {call : Nat → List Value → ab_S → Option Value → ab_S → Prop} {ro : ab_E} {Q : Option Value → ab_S → Prop} (y1 : Int32) (mi : Nat → Nat → Int32) (ml : Nat → Nat → Int64)
    (h : ((y1 < (mi 40 20)) → (vp_in y1 30 ∧ ((((mi 67 (y1).toNatClampNeg) = 0) → (ab_W call ro 0 0 (ab_lk2 pl_X12_builds) Q (185, [some (.ref 40), some (.int (y1 + 1)), none, none, none], [], 0, 0, (ab_G mi ml)))) ∧ (¬ ((mi 67 (y1).toNatClampNeg) = 0) → (vp_in y1 30 ∧ ((((mi 52 (y1).toNatClampNeg) = 3) → (vp_in y1 30 ∧ (vp_in y1 30 ∧ (vp_in y1 30 ∧ (∃ (mi1 : Nat → Nat → Int32) (ml2 : Nat → Nat → Int64), call 186 [.ref 40, .int (mi 54 (y1).toNatClampNeg), .long (ml 55 (y1).toNatClampNeg), .long (ml 56 (y1).toNatClampNeg)] (ab_G mi ml) none (ab_G mi1 ml2) ∧ (ab_W call ro 0 0 (ab_lk2 pl_X12_builds) Q (185, [some (.ref 40), some (.int (y1 + 1)), none, none, none], [], 0, 0, (ab_G mi1 ml2)))))))) ∧ (¬ ((mi 52 (y1).toNatClampNeg) = 3) → (ab_W call ro 0 0 (ab_lk2 pl_X12_builds) Q (185, [some (.ref 40), some (.int (y1 + 1)), none, none, none], [], 0, 0, (ab_G mi ml)))))))))) ∧ (¬ (y1 < (mi 40 20)) → (∃ (mi3 : Nat → Nat → Int32) (ml4 : Nat → Nat → Int64), call 188 [.ref 40] (ab_G mi ml) none (ab_G mi3 ml4) ∧ (Q none (ab_G mi3 ml4))))) :
    ab_W call ro 0 0 (ab_lk2 pl_X12_builds) Q (185, [some (.ref 40), some (.int y1), none, none, none], [], 0, 0, ab_G mi ml) := by
  refine ab_wk 4 (f' := (if y1 < (mi 40 20) then 193 else 240, [some (.ref 40), some (.int y1), none, none, none], [], 0, 0, (ab_G mi ml))) rfl ⟨trivial, trivial, trivial, trivial, trivial⟩ ?_
  refine ab_wi (fun c => ?_) (fun c => ?_)
  · have h := h.1 c
    obtain ⟨p0, h⟩ := h
    refine ab_wk 5 (f' := (if (mi 67 (y1).toNatClampNeg) = 0 then 234 else 202, [some (.ref 40), some (.int y1), none, none, none], [], 0, 0, (ab_G mi ml))) rfl ⟨trivial, trivial, trivial, p0, trivial, trivial⟩ ?_
    refine ab_wi (fun c => ?_) (fun c => ?_)
    · have h := h.1 c
      exact ab_wk 2 (f' := (185, [some (.ref 40), some (.int (y1 + 1)), none, none, none], [], 0, 0, (ab_G mi ml))) rfl ⟨trivial, trivial, trivial⟩ h
    · have h := h.2 c
      obtain ⟨p0, h⟩ := h
      refine ab_wk 6 (f' := (if (mi 52 (y1).toNatClampNeg) = 3 then 212 else 234, [some (.ref 40), some (.int y1), none, none, none], [], 0, 0, (ab_G mi ml))) rfl ⟨trivial, trivial, trivial, p0, trivial, trivial, trivial⟩ ?_
      refine ab_wi (fun c => ?_) (fun c => ?_)
      · have h := h.1 c
        obtain ⟨p0, p1, p2, h⟩ := h
        obtain ⟨mi1, ml2, hc, h⟩ := h
        refine ab_wc 14 (c := 186) (as := [.ref 40, .int (mi 54 (y1).toNatClampNeg), .long (ml 55 (y1).toNatClampNeg), .long (ml 56 (y1).toNatClampNeg)]) (pc := 234) (ll := [some (.ref 40), some (.int y1), none, none, none]) (st := []) (c1 := 0) (s1 := 0) (g := (ab_G mi ml)) rfl ⟨trivial, trivial, trivial, trivial, p0, trivial, trivial, trivial, p1, trivial, trivial, trivial, p2, trivial⟩ hc ?_
        exact ab_wk 2 (f' := (185, [some (.ref 40), some (.int (y1 + 1)), none, none, none], [], 0, 0, (ab_G mi1 ml2))) rfl ⟨trivial, trivial, trivial⟩ h
      · have h := h.2 c
        exact ab_wk 2 (f' := (185, [some (.ref 40), some (.int (y1 + 1)), none, none, none], [], 0, 0, (ab_G mi ml))) rfl ⟨trivial, trivial, trivial⟩ h
  · have h := h.2 c
    obtain ⟨mi3, ml4, hc, h⟩ := h
    refine ab_wc 2 (c := 188) (as := [.ref 40]) (pc := 244) (ll := [some (.ref 40), some (.int y1), none, none, none]) (st := []) (c1 := 0) (s1 := 0) (g := (ab_G mi ml)) rfl ⟨trivial, trivial⟩ hc ?_
    exact ab_wr 1 rfl trivial h
theorem vc_X12_builds_27 {call : Nat → List Value → ab_S → Option Value → ab_S → Prop} {ro : ab_E} {Q : Option Value → ab_S → Prop} (y1 : Int32) (y2 : Int32) (y3 : Int32) (y4 : Int32) (mi : Nat → Nat → Int32) (ml : Nat → Nat → Int64)
    (h : ((y4 < 0) → (((y3 = 0) → (((y2 < 0) → (((y3 = 0) → (vp_in y1 12 ∧ (vp_in y1 12 ∧ (vp_in y1 12 ∧ (∃ (mi5 : Nat → Nat → Int32) (ml6 : Nat → Nat → Int64), call 186 [.ref 40, .int (mi 46 (y1).toNatClampNeg), .long (ml 47 (y1).toNatClampNeg), .long (ml 48 (y1).toNatClampNeg)] (ab_G mi ml) none (ab_G mi5 ml6) ∧ (ab_W call ro 0 0 (ab_lk2 pl_X12_builds) Q (7, [some (.ref 40), some (.int (y1 + 1)), none, none, none], [], 0, 0, (ab_G mi5 ml6)))))))) ∧ (¬ (y3 = 0) → (ab_W call ro 0 0 (ab_lk2 pl_X12_builds) Q (7, [some (.ref 40), some (.int (y1 + 1)), none, none, none], [], 0, 0, (ab_G mi ml)))))) ∧ (¬ (y2 < 0) → (vp_in y2 30 ∧ (vp_in y2 30 ∧ (vp_in y2 30 ∧ (∃ (mi7 : Nat → Nat → Int32) (ml8 : Nat → Nat → Int64), call 186 [.ref 40, .int (mi 54 (y2).toNatClampNeg), .long (ml 55 (y2).toNatClampNeg), .long (ml 56 (y2).toNatClampNeg)] (ab_G mi ml) none (ab_G mi7 ml8) ∧ (ab_W call ro 0 0 (ab_lk2 pl_X12_builds) Q (7, [some (.ref 40), some (.int (y1 + 1)), none, none, none], [], 0, 0, (ab_G mi7 ml8)))))))))) ∧ (¬ (y3 = 0) → (((y3 = 0) → (vp_in y1 12 ∧ (vp_in y1 12 ∧ (vp_in y1 12 ∧ (∃ (mi9 : Nat → Nat → Int32) (ml10 : Nat → Nat → Int64), call 186 [.ref 40, .int (mi 46 (y1).toNatClampNeg), .long (ml 47 (y1).toNatClampNeg), .long (ml 48 (y1).toNatClampNeg)] (ab_G mi ml) none (ab_G mi9 ml10) ∧ (ab_W call ro 0 0 (ab_lk2 pl_X12_builds) Q (7, [some (.ref 40), some (.int (y1 + 1)), none, none, none], [], 0, 0, (ab_G mi9 ml10)))))))) ∧ (¬ (y3 = 0) → (ab_W call ro 0 0 (ab_lk2 pl_X12_builds) Q (7, [some (.ref 40), some (.int (y1 + 1)), none, none, none], [], 0, 0, (ab_G mi ml)))))))) ∧ (¬ (y4 < 0) → (((y3 = 0) → (vp_in y4 30 ∧ ((((mi 67 (y4).toNatClampNeg) = 0) → (vp_in y4 30 ∧ ((((mi 67 (y4).toNatClampNeg) = 0) → (ab_W call ro 0 0 (ab_lk2 pl_X12_builds) Q (27, [some (.ref 40), some (.int y1), some (.int y2), some (.int 0), some (.int (y4 + (-1)))], [], 0, 0, (ab_G mi ml)))) ∧ (¬ ((mi 67 (y4).toNatClampNeg) = 0) → (vp_in y4 30 ∧ ((((mi 52 (y4).toNatClampNeg) = 2) → (vp_in y4 30 ∧ ((((mi 53 (y4).toNatClampNeg) = y1) → (ab_W call ro 0 0 (ab_lk2 pl_X12_builds) Q (27, [some (.ref 40), some (.int y1), some (.int y4), some (.int 0), some (.int (y4 + (-1)))], [], 0, 0, (ab_G mi ml)))) ∧ (¬ ((mi 53 (y4).toNatClampNeg) = y1) → (ab_W call ro 0 0 (ab_lk2 pl_X12_builds) Q (27, [some (.ref 40), some (.int y1), some (.int y2), some (.int 0), some (.int (y4 + (-1)))], [], 0, 0, (ab_G mi ml))))))) ∧ (¬ ((mi 52 (y4).toNatClampNeg) = 2) → (ab_W call ro 0 0 (ab_lk2 pl_X12_builds) Q (27, [some (.ref 40), some (.int y1), some (.int y2), some (.int 0), some (.int (y4 + (-1)))], [], 0, 0, (ab_G mi ml)))))))))) ∧ (¬ ((mi 67 (y4).toNatClampNeg) = 0) → (vp_in y4 30 ∧ ((((mi 52 (y4).toNatClampNeg) = 0) → (vp_in y4 30 ∧ ((((mi 53 (y4).toNatClampNeg) = y1) → (vp_in y4 30 ∧ ((((mi 67 (y4).toNatClampNeg) = 0) → (ab_W call ro 0 0 (ab_lk2 pl_X12_builds) Q (27, [some (.ref 40), some (.int y1), some (.int y2), some (.int 1), some (.int (y4 + (-1)))], [], 0, 0, (ab_G mi ml)))) ∧ (¬ ((mi 67 (y4).toNatClampNeg) = 0) → (vp_in y4 30 ∧ ((((mi 52 (y4).toNatClampNeg) = 2) → (vp_in y4 30 ∧ ((((mi 53 (y4).toNatClampNeg) = y1) → (ab_W call ro 0 0 (ab_lk2 pl_X12_builds) Q (27, [some (.ref 40), some (.int y1), some (.int y4), some (.int 1), some (.int (y4 + (-1)))], [], 0, 0, (ab_G mi ml)))) ∧ (¬ ((mi 53 (y4).toNatClampNeg) = y1) → (ab_W call ro 0 0 (ab_lk2 pl_X12_builds) Q (27, [some (.ref 40), some (.int y1), some (.int y2), some (.int 1), some (.int (y4 + (-1)))], [], 0, 0, (ab_G mi ml))))))) ∧ (¬ ((mi 52 (y4).toNatClampNeg) = 2) → (ab_W call ro 0 0 (ab_lk2 pl_X12_builds) Q (27, [some (.ref 40), some (.int y1), some (.int y2), some (.int 1), some (.int (y4 + (-1)))], [], 0, 0, (ab_G mi ml)))))))))) ∧ (¬ ((mi 53 (y4).toNatClampNeg) = y1) → (vp_in y4 30 ∧ ((((mi 67 (y4).toNatClampNeg) = 0) → (ab_W call ro 0 0 (ab_lk2 pl_X12_builds) Q (27, [some (.ref 40), some (.int y1), some (.int y2), some (.int 0), some (.int (y4 + (-1)))], [], 0, 0, (ab_G mi ml)))) ∧ (¬ ((mi 67 (y4).toNatClampNeg) = 0) → (vp_in y4 30 ∧ ((((mi 52 (y4).toNatClampNeg) = 2) → (vp_in y4 30 ∧ ((((mi 53 (y4).toNatClampNeg) = y1) → (ab_W call ro 0 0 (ab_lk2 pl_X12_builds) Q (27, [some (.ref 40), some (.int y1), some (.int y4), some (.int 0), some (.int (y4 + (-1)))], [], 0, 0, (ab_G mi ml)))) ∧ (¬ ((mi 53 (y4).toNatClampNeg) = y1) → (ab_W call ro 0 0 (ab_lk2 pl_X12_builds) Q (27, [some (.ref 40), some (.int y1), some (.int y2), some (.int 0), some (.int (y4 + (-1)))], [], 0, 0, (ab_G mi ml))))))) ∧ (¬ ((mi 52 (y4).toNatClampNeg) = 2) → (ab_W call ro 0 0 (ab_lk2 pl_X12_builds) Q (27, [some (.ref 40), some (.int y1), some (.int y2), some (.int 0), some (.int (y4 + (-1)))], [], 0, 0, (ab_G mi ml))))))))))))) ∧ (¬ ((mi 52 (y4).toNatClampNeg) = 0) → (vp_in y4 30 ∧ ((((mi 67 (y4).toNatClampNeg) = 0) → (ab_W call ro 0 0 (ab_lk2 pl_X12_builds) Q (27, [some (.ref 40), some (.int y1), some (.int y2), some (.int 0), some (.int (y4 + (-1)))], [], 0, 0, (ab_G mi ml)))) ∧ (¬ ((mi 67 (y4).toNatClampNeg) = 0) → (vp_in y4 30 ∧ ((((mi 52 (y4).toNatClampNeg) = 2) → (vp_in y4 30 ∧ ((((mi 53 (y4).toNatClampNeg) = y1) → (ab_W call ro 0 0 (ab_lk2 pl_X12_builds) Q (27, [some (.ref 40), some (.int y1), some (.int y4), some (.int 0), some (.int (y4 + (-1)))], [], 0, 0, (ab_G mi ml)))) ∧ (¬ ((mi 53 (y4).toNatClampNeg) = y1) → (ab_W call ro 0 0 (ab_lk2 pl_X12_builds) Q (27, [some (.ref 40), some (.int y1), some (.int y2), some (.int 0), some (.int (y4 + (-1)))], [], 0, 0, (ab_G mi ml))))))) ∧ (¬ ((mi 52 (y4).toNatClampNeg) = 2) → (ab_W call ro 0 0 (ab_lk2 pl_X12_builds) Q (27, [some (.ref 40), some (.int y1), some (.int y2), some (.int 0), some (.int (y4 + (-1)))], [], 0, 0, (ab_G mi ml)))))))))))))))) ∧ (¬ (y3 = 0) → (vp_in y4 30 ∧ ((((mi 67 (y4).toNatClampNeg) = 0) → (ab_W call ro 0 0 (ab_lk2 pl_X12_builds) Q (27, [some (.ref 40), some (.int y1), some (.int y2), some (.int 1), some (.int (y4 + (-1)))], [], 0, 0, (ab_G mi ml)))) ∧ (¬ ((mi 67 (y4).toNatClampNeg) = 0) → (vp_in y4 30 ∧ ((((mi 52 (y4).toNatClampNeg) = 2) → (vp_in y4 30 ∧ ((((mi 53 (y4).toNatClampNeg) = y1) → (ab_W call ro 0 0 (ab_lk2 pl_X12_builds) Q (27, [some (.ref 40), some (.int y1), some (.int y4), some (.int 1), some (.int (y4 + (-1)))], [], 0, 0, (ab_G mi ml)))) ∧ (¬ ((mi 53 (y4).toNatClampNeg) = y1) → (ab_W call ro 0 0 (ab_lk2 pl_X12_builds) Q (27, [some (.ref 40), some (.int y1), some (.int y2), some (.int 1), some (.int (y4 + (-1)))], [], 0, 0, (ab_G mi ml))))))) ∧ (¬ ((mi 52 (y4).toNatClampNeg) = 2) → (ab_W call ro 0 0 (ab_lk2 pl_X12_builds) Q (27, [some (.ref 40), some (.int y1), some (.int y2), some (.int 1), some (.int (y4 + (-1)))], [], 0, 0, (ab_G mi ml))))))))))))) :
    ab_W call ro 0 0 (ab_lk2 pl_X12_builds) Q (27, [some (.ref 40), some (.int y1), some (.int y2), some (.int y3), some (.int y4)], [], 0, 0, ab_G mi ml) := by
  refine ab_wk 2 (f' := (if y4 < 0 then 118 else 32, [some (.ref 40), some (.int y1), some (.int y2), some (.int y3), some (.int y4)], [], 0, 0, (ab_G mi ml))) rfl ⟨trivial, trivial, trivial⟩ ?_
  refine ab_wi (fun c => ?_) (fun c => ?_)
  · have h := h.1 c
    refine ab_wk 2 (f' := (if y3 = 0 then 122 else 151, [some (.ref 40), some (.int y1), some (.int y2), some (.int y3), some (.int y4)], [], 0, 0, (ab_G mi ml))) rfl ⟨trivial, trivial, trivial⟩ ?_
    refine ab_wi (fun c => ?_) (fun c => ?_)
    · have h := h.1 c
      refine ab_wk 2 (f' := (if y2 < 0 then 151 else 126, [some (.ref 40), some (.int y1), some (.int y2), some (.int y3), some (.int y4)], [], 0, 0, (ab_G mi ml))) rfl ⟨trivial, trivial, trivial⟩ ?_
      refine ab_wi (fun c => ?_) (fun c => ?_)
      · have h := h.1 c
        refine ab_wk 2 (f' := (if y3 = 0 then 155 else 177, [some (.ref 40), some (.int y1), some (.int y2), some (.int y3), some (.int y4)], [], 0, 0, (ab_G mi ml))) rfl ⟨trivial, trivial, trivial⟩ ?_
        refine ab_wi (fun c => ?_) (fun c => ?_)
        · have h := h.1 c
          obtain ⟨p0, p1, p2, h⟩ := h
          obtain ⟨mi5, ml6, hc, h⟩ := h
          refine ab_wc 14 (c := 186) (as := [.ref 40, .int (mi 46 (y1).toNatClampNeg), .long (ml 47 (y1).toNatClampNeg), .long (ml 48 (y1).toNatClampNeg)]) (pc := 177) (ll := [some (.ref 40), some (.int y1), some (.int y2), some (.int y3), some (.int y4)]) (st := []) (c1 := 0) (s1 := 0) (g := (ab_G mi ml)) rfl ⟨trivial, trivial, trivial, trivial, p0, trivial, trivial, trivial, p1, trivial, trivial, trivial, p2, trivial⟩ hc ?_
          exact ab_wk 2 (f' := (7, [some (.ref 40), some (.int (y1 + 1)), some (.int y2), some (.int y3), some (.int y4)], [], 0, 0, (ab_G mi5 ml6))) rfl ⟨trivial, trivial, trivial⟩ (ab_drop h (ab_lrc _ (ab_lrc _ (ab_lrn _ (ab_lrn _ (ab_lrn _ ab_lr0))))))
        · have h := h.2 c
          exact ab_wk 2 (f' := (7, [some (.ref 40), some (.int (y1 + 1)), some (.int y2), some (.int y3), some (.int y4)], [], 0, 0, (ab_G mi ml))) rfl ⟨trivial, trivial, trivial⟩ (ab_drop h (ab_lrc _ (ab_lrc _ (ab_lrn _ (ab_lrn _ (ab_lrn _ ab_lr0))))))
      · have h := h.2 c
        obtain ⟨p0, p1, p2, h⟩ := h
        obtain ⟨mi7, ml8, hc, h⟩ := h
        refine ab_wc 14 (c := 186) (as := [.ref 40, .int (mi 54 (y2).toNatClampNeg), .long (ml 55 (y2).toNatClampNeg), .long (ml 56 (y2).toNatClampNeg)]) (pc := 148) (ll := [some (.ref 40), some (.int y1), some (.int y2), some (.int y3), some (.int y4)]) (st := []) (c1 := 0) (s1 := 0) (g := (ab_G mi ml)) rfl ⟨trivial, trivial, trivial, trivial, p0, trivial, trivial, trivial, p1, trivial, trivial, trivial, p2, trivial⟩ hc ?_
        exact ab_wk 3 (f' := (7, [some (.ref 40), some (.int (y1 + 1)), some (.int y2), some (.int y3), some (.int y4)], [], 0, 0, (ab_G mi7 ml8))) rfl ⟨trivial, trivial, trivial, trivial⟩ (ab_drop h (ab_lrc _ (ab_lrc _ (ab_lrn _ (ab_lrn _ (ab_lrn _ ab_lr0))))))
    · have h := h.2 c
      refine ab_wk 2 (f' := (if y3 = 0 then 155 else 177, [some (.ref 40), some (.int y1), some (.int y2), some (.int y3), some (.int y4)], [], 0, 0, (ab_G mi ml))) rfl ⟨trivial, trivial, trivial⟩ ?_
      refine ab_wi (fun c => ?_) (fun c => ?_)
      · have h := h.1 c
        obtain ⟨p0, p1, p2, h⟩ := h
        obtain ⟨mi9, ml10, hc, h⟩ := h
        refine ab_wc 14 (c := 186) (as := [.ref 40, .int (mi 46 (y1).toNatClampNeg), .long (ml 47 (y1).toNatClampNeg), .long (ml 48 (y1).toNatClampNeg)]) (pc := 177) (ll := [some (.ref 40), some (.int y1), some (.int y2), some (.int y3), some (.int y4)]) (st := []) (c1 := 0) (s1 := 0) (g := (ab_G mi ml)) rfl ⟨trivial, trivial, trivial, trivial, p0, trivial, trivial, trivial, p1, trivial, trivial, trivial, p2, trivial⟩ hc ?_
        exact ab_wk 2 (f' := (7, [some (.ref 40), some (.int (y1 + 1)), some (.int y2), some (.int y3), some (.int y4)], [], 0, 0, (ab_G mi9 ml10))) rfl ⟨trivial, trivial, trivial⟩ (ab_drop h (ab_lrc _ (ab_lrc _ (ab_lrn _ (ab_lrn _ (ab_lrn _ ab_lr0))))))
      · have h := h.2 c
        exact ab_wk 2 (f' := (7, [some (.ref 40), some (.int (y1 + 1)), some (.int y2), some (.int y3), some (.int y4)], [], 0, 0, (ab_G mi ml))) rfl ⟨trivial, trivial, trivial⟩ (ab_drop h (ab_lrc _ (ab_lrc _ (ab_lrn _ (ab_lrn _ (ab_lrn _ ab_lr0))))))
  · have h := h.2 c
    refine ab_wk 2 (f' := (if y3 = 0 then 36 else 67, [some (.ref 40), some (.int y1), some (.int y2), some (.int y3), some (.int y4)], [], 0, 0, (ab_G mi ml))) rfl ⟨trivial, trivial, trivial⟩ ?_
    refine ab_wi (fun c => ?_) (fun c => ?_)
    · have h := h.1 c
      obtain ⟨p0, h⟩ := h
      refine ab_wk 5 (f' := (if (mi 67 (y4).toNatClampNeg) = 0 then 71 else 46, [some (.ref 40), some (.int y1), some (.int y2), some (.int y3), some (.int y4)], [], 0, 0, (ab_G mi ml))) rfl ⟨trivial, trivial, trivial, p0, trivial, trivial⟩ ?_
      refine ab_wi (fun c => ?_) (fun c => ?_)
      · have h := h.1 c
        obtain ⟨p0, h⟩ := h
        refine ab_wk 7 (f' := (if (mi 67 (y4).toNatClampNeg) = 0 then 110 else 83, [some (.ref 40), some (.int y1), some (.int y2), some (.int 0), some (.int y4)], [], 0, 0, (ab_G mi ml))) rfl ⟨trivial, trivial, trivial, trivial, trivial, p0, trivial, trivial⟩ ?_
        refine ab_wi (fun c => ?_) (fun c => ?_)
        · have h := h.1 c
          exact ab_wk 4 (f' := (27, [some (.ref 40), some (.int y1), some (.int y2), some (.int 0), some (.int (y4 + (-1)))], [], 0, 0, (ab_G mi ml))) rfl ⟨trivial, trivial, trivial, trivial, trivial⟩ h
        · have h := h.2 c
          obtain ⟨p0, h⟩ := h
          refine ab_wk 6 (f' := (if (mi 52 (y4).toNatClampNeg) = 2 then 94 else 110, [some (.ref 40), some (.int y1), some (.int y2), some (.int 0), some (.int y4)], [], 0, 0, (ab_G mi ml))) rfl ⟨trivial, trivial, trivial, p0, trivial, trivial, trivial⟩ ?_
          refine ab_wi (fun c => ?_) (fun c => ?_)
          · have h := h.1 c
            obtain ⟨p0, h⟩ := h
            refine ab_wk 6 (f' := (if (mi 53 (y4).toNatClampNeg) = y1 then 105 else 110, [some (.ref 40), some (.int y1), some (.int y2), some (.int 0), some (.int y4)], [], 0, 0, (ab_G mi ml))) rfl ⟨trivial, trivial, trivial, p0, trivial, trivial, trivial⟩ ?_
            refine ab_wi (fun c => ?_) (fun c => ?_)
            · have h := h.1 c
              exact ab_wk 5 (f' := (27, [some (.ref 40), some (.int y1), some (.int y4), some (.int 0), some (.int (y4 + (-1)))], [], 0, 0, (ab_G mi ml))) rfl ⟨trivial, trivial, trivial, trivial, trivial, trivial⟩ h
            · have h := h.2 c
              exact ab_wk 4 (f' := (27, [some (.ref 40), some (.int y1), some (.int y2), some (.int 0), some (.int (y4 + (-1)))], [], 0, 0, (ab_G mi ml))) rfl ⟨trivial, trivial, trivial, trivial, trivial⟩ h
          · have h := h.2 c
            exact ab_wk 4 (f' := (27, [some (.ref 40), some (.int y1), some (.int y2), some (.int 0), some (.int (y4 + (-1)))], [], 0, 0, (ab_G mi ml))) rfl ⟨trivial, trivial, trivial, trivial, trivial⟩ h
      · have h := h.2 c
        obtain ⟨p0, h⟩ := h
        refine ab_wk 5 (f' := (if (mi 52 (y4).toNatClampNeg) = 0 then 56 else 71, [some (.ref 40), some (.int y1), some (.int y2), some (.int y3), some (.int y4)], [], 0, 0, (ab_G mi ml))) rfl ⟨trivial, trivial, trivial, p0, trivial, trivial⟩ ?_
        refine ab_wi (fun c => ?_) (fun c => ?_)
        · have h := h.1 c
          obtain ⟨p0, h⟩ := h
          refine ab_wk 6 (f' := (if (mi 53 (y4).toNatClampNeg) = y1 then 67 else 71, [some (.ref 40), some (.int y1), some (.int y2), some (.int y3), some (.int y4)], [], 0, 0, (ab_G mi ml))) rfl ⟨trivial, trivial, trivial, p0, trivial, trivial, trivial⟩ ?_
          refine ab_wi (fun c => ?_) (fun c => ?_)
          · have h := h.1 c
            obtain ⟨p0, h⟩ := h
            refine ab_wk 8 (f' := (if (mi 67 (y4).toNatClampNeg) = 0 then 110 else 83, [some (.ref 40), some (.int y1), some (.int y2), some (.int 1), some (.int y4)], [], 0, 0, (ab_G mi ml))) rfl ⟨trivial, trivial, trivial, trivial, trivial, trivial, p0, trivial, trivial⟩ ?_
            refine ab_wi (fun c => ?_) (fun c => ?_)
            · have h := h.1 c
              exact ab_wk 4 (f' := (27, [some (.ref 40), some (.int y1), some (.int y2), some (.int 1), some (.int (y4 + (-1)))], [], 0, 0, (ab_G mi ml))) rfl ⟨trivial, trivial, trivial, trivial, trivial⟩ h
            · have h := h.2 c
              obtain ⟨p0, h⟩ := h
              refine ab_wk 6 (f' := (if (mi 52 (y4).toNatClampNeg) = 2 then 94 else 110, [some (.ref 40), some (.int y1), some (.int y2), some (.int 1), some (.int y4)], [], 0, 0, (ab_G mi ml))) rfl ⟨trivial, trivial, trivial, p0, trivial, trivial, trivial⟩ ?_
              refine ab_wi (fun c => ?_) (fun c => ?_)
              · have h := h.1 c
                obtain ⟨p0, h⟩ := h
                refine ab_wk 6 (f' := (if (mi 53 (y4).toNatClampNeg) = y1 then 105 else 110, [some (.ref 40), some (.int y1), some (.int y2), some (.int 1), some (.int y4)], [], 0, 0, (ab_G mi ml))) rfl ⟨trivial, trivial, trivial, p0, trivial, trivial, trivial⟩ ?_
                refine ab_wi (fun c => ?_) (fun c => ?_)
                · have h := h.1 c
                  exact ab_wk 5 (f' := (27, [some (.ref 40), some (.int y1), some (.int y4), some (.int 1), some (.int (y4 + (-1)))], [], 0, 0, (ab_G mi ml))) rfl ⟨trivial, trivial, trivial, trivial, trivial, trivial⟩ h
                · have h := h.2 c
                  exact ab_wk 4 (f' := (27, [some (.ref 40), some (.int y1), some (.int y2), some (.int 1), some (.int (y4 + (-1)))], [], 0, 0, (ab_G mi ml))) rfl ⟨trivial, trivial, trivial, trivial, trivial⟩ h
              · have h := h.2 c
                exact ab_wk 4 (f' := (27, [some (.ref 40), some (.int y1), some (.int y2), some (.int 1), some (.int (y4 + (-1)))], [], 0, 0, (ab_G mi ml))) rfl ⟨trivial, trivial, trivial, trivial, trivial⟩ h
          · have h := h.2 c
            obtain ⟨p0, h⟩ := h
            refine ab_wk 7 (f' := (if (mi 67 (y4).toNatClampNeg) = 0 then 110 else 83, [some (.ref 40), some (.int y1), some (.int y2), some (.int 0), some (.int y4)], [], 0, 0, (ab_G mi ml))) rfl ⟨trivial, trivial, trivial, trivial, trivial, p0, trivial, trivial⟩ ?_
            refine ab_wi (fun c => ?_) (fun c => ?_)
            · have h := h.1 c
              exact ab_wk 4 (f' := (27, [some (.ref 40), some (.int y1), some (.int y2), some (.int 0), some (.int (y4 + (-1)))], [], 0, 0, (ab_G mi ml))) rfl ⟨trivial, trivial, trivial, trivial, trivial⟩ h
            · have h := h.2 c
              obtain ⟨p0, h⟩ := h
              refine ab_wk 6 (f' := (if (mi 52 (y4).toNatClampNeg) = 2 then 94 else 110, [some (.ref 40), some (.int y1), some (.int y2), some (.int 0), some (.int y4)], [], 0, 0, (ab_G mi ml))) rfl ⟨trivial, trivial, trivial, p0, trivial, trivial, trivial⟩ ?_
              refine ab_wi (fun c => ?_) (fun c => ?_)
              · have h := h.1 c
                obtain ⟨p0, h⟩ := h
                refine ab_wk 6 (f' := (if (mi 53 (y4).toNatClampNeg) = y1 then 105 else 110, [some (.ref 40), some (.int y1), some (.int y2), some (.int 0), some (.int y4)], [], 0, 0, (ab_G mi ml))) rfl ⟨trivial, trivial, trivial, p0, trivial, trivial, trivial⟩ ?_
                refine ab_wi (fun c => ?_) (fun c => ?_)
                · have h := h.1 c
                  exact ab_wk 5 (f' := (27, [some (.ref 40), some (.int y1), some (.int y4), some (.int 0), some (.int (y4 + (-1)))], [], 0, 0, (ab_G mi ml))) rfl ⟨trivial, trivial, trivial, trivial, trivial, trivial⟩ h
                · have h := h.2 c
                  exact ab_wk 4 (f' := (27, [some (.ref 40), some (.int y1), some (.int y2), some (.int 0), some (.int (y4 + (-1)))], [], 0, 0, (ab_G mi ml))) rfl ⟨trivial, trivial, trivial, trivial, trivial⟩ h
              · have h := h.2 c
                exact ab_wk 4 (f' := (27, [some (.ref 40), some (.int y1), some (.int y2), some (.int 0), some (.int (y4 + (-1)))], [], 0, 0, (ab_G mi ml))) rfl ⟨trivial, trivial, trivial, trivial, trivial⟩ h
        · have h := h.2 c
          obtain ⟨p0, h⟩ := h
          refine ab_wk 7 (f' := (if (mi 67 (y4).toNatClampNeg) = 0 then 110 else 83, [some (.ref 40), some (.int y1), some (.int y2), some (.int 0), some (.int y4)], [], 0, 0, (ab_G mi ml))) rfl ⟨trivial, trivial, trivial, trivial, trivial, p0, trivial, trivial⟩ ?_
          refine ab_wi (fun c => ?_) (fun c => ?_)
          · have h := h.1 c
            exact ab_wk 4 (f' := (27, [some (.ref 40), some (.int y1), some (.int y2), some (.int 0), some (.int (y4 + (-1)))], [], 0, 0, (ab_G mi ml))) rfl ⟨trivial, trivial, trivial, trivial, trivial⟩ h
          · have h := h.2 c
            obtain ⟨p0, h⟩ := h
            refine ab_wk 6 (f' := (if (mi 52 (y4).toNatClampNeg) = 2 then 94 else 110, [some (.ref 40), some (.int y1), some (.int y2), some (.int 0), some (.int y4)], [], 0, 0, (ab_G mi ml))) rfl ⟨trivial, trivial, trivial, p0, trivial, trivial, trivial⟩ ?_
            refine ab_wi (fun c => ?_) (fun c => ?_)
            · have h := h.1 c
              obtain ⟨p0, h⟩ := h
              refine ab_wk 6 (f' := (if (mi 53 (y4).toNatClampNeg) = y1 then 105 else 110, [some (.ref 40), some (.int y1), some (.int y2), some (.int 0), some (.int y4)], [], 0, 0, (ab_G mi ml))) rfl ⟨trivial, trivial, trivial, p0, trivial, trivial, trivial⟩ ?_
              refine ab_wi (fun c => ?_) (fun c => ?_)
              · have h := h.1 c
                exact ab_wk 5 (f' := (27, [some (.ref 40), some (.int y1), some (.int y4), some (.int 0), some (.int (y4 + (-1)))], [], 0, 0, (ab_G mi ml))) rfl ⟨trivial, trivial, trivial, trivial, trivial, trivial⟩ h
              · have h := h.2 c
                exact ab_wk 4 (f' := (27, [some (.ref 40), some (.int y1), some (.int y2), some (.int 0), some (.int (y4 + (-1)))], [], 0, 0, (ab_G mi ml))) rfl ⟨trivial, trivial, trivial, trivial, trivial⟩ h
            · have h := h.2 c
              exact ab_wk 4 (f' := (27, [some (.ref 40), some (.int y1), some (.int y2), some (.int 0), some (.int (y4 + (-1)))], [], 0, 0, (ab_G mi ml))) rfl ⟨trivial, trivial, trivial, trivial, trivial⟩ h
    · have h := h.2 c
      obtain ⟨p0, h⟩ := h
      refine ab_wk 8 (f' := (if (mi 67 (y4).toNatClampNeg) = 0 then 110 else 83, [some (.ref 40), some (.int y1), some (.int y2), some (.int 1), some (.int y4)], [], 0, 0, (ab_G mi ml))) rfl ⟨trivial, trivial, trivial, trivial, trivial, trivial, p0, trivial, trivial⟩ ?_
      refine ab_wi (fun c => ?_) (fun c => ?_)
      · have h := h.1 c
        exact ab_wk 4 (f' := (27, [some (.ref 40), some (.int y1), some (.int y2), some (.int 1), some (.int (y4 + (-1)))], [], 0, 0, (ab_G mi ml))) rfl ⟨trivial, trivial, trivial, trivial, trivial⟩ h
      · have h := h.2 c
        obtain ⟨p0, h⟩ := h
        refine ab_wk 6 (f' := (if (mi 52 (y4).toNatClampNeg) = 2 then 94 else 110, [some (.ref 40), some (.int y1), some (.int y2), some (.int 1), some (.int y4)], [], 0, 0, (ab_G mi ml))) rfl ⟨trivial, trivial, trivial, p0, trivial, trivial, trivial⟩ ?_
        refine ab_wi (fun c => ?_) (fun c => ?_)
        · have h := h.1 c
          obtain ⟨p0, h⟩ := h
          refine ab_wk 6 (f' := (if (mi 53 (y4).toNatClampNeg) = y1 then 105 else 110, [some (.ref 40), some (.int y1), some (.int y2), some (.int 1), some (.int y4)], [], 0, 0, (ab_G mi ml))) rfl ⟨trivial, trivial, trivial, p0, trivial, trivial, trivial⟩ ?_
          refine ab_wi (fun c => ?_) (fun c => ?_)
          · have h := h.1 c
            exact ab_wk 5 (f' := (27, [some (.ref 40), some (.int y1), some (.int y4), some (.int 1), some (.int (y4 + (-1)))], [], 0, 0, (ab_G mi ml))) rfl ⟨trivial, trivial, trivial, trivial, trivial, trivial⟩ h
          · have h := h.2 c
            exact ab_wk 4 (f' := (27, [some (.ref 40), some (.int y1), some (.int y2), some (.int 1), some (.int (y4 + (-1)))], [], 0, 0, (ab_G mi ml))) rfl ⟨trivial, trivial, trivial, trivial, trivial⟩ h
        · have h := h.2 c
          exact ab_wk 4 (f' := (27, [some (.ref 40), some (.int y1), some (.int y2), some (.int 1), some (.int (y4 + (-1)))], [], 0, 0, (ab_G mi ml))) rfl ⟨trivial, trivial, trivial, trivial, trivial⟩ h
theorem vc_X12_asks_0 {call : Nat → List Value → ab_S → Option Value → ab_S → Prop} {ro : ab_E} {Q : Option Value → ab_S → Prop}  (mi : Nat → Nat → Int32) (ml : Nat → Nat → Int64)
    (h : ab_W call ro 0 0 (ab_lk2 pl_X12_asks) Q (16, [some (.ref 40), some (.int 0)], [], 0, 0, (ab_G mi (ab_ul (ab_ul ml 40 40 (-1)) 40 41 (-1))))) :
    ab_W call ro 0 0 (ab_lk2 pl_X12_asks) Q (0, [some (.ref 40), none], [], 0, 0, ab_G mi ml) := by
  exact ab_wk 8 (f' := (16, [some (.ref 40), some (.int 0)], [], 0, 0, (ab_G mi (ab_ul (ab_ul ml 40 40 (-1)) 40 41 (-1))))) rfl ⟨trivial, trivial, trivial, trivial, trivial, trivial, trivial, trivial, trivial⟩ h
theorem vc_X12_asks_16 {call : Nat → List Value → ab_S → Option Value → ab_S → Prop} {ro : ab_E} {Q : Option Value → ab_S → Prop} (y1 : Int32) (mi : Nat → Nat → Int32) (ml : Nat → Nat → Int64)
    (h : ((y1 < (mi 40 36)) → (vp_in y1 42 ∧ ((((mi 64 (y1).toNatClampNeg) = 0) → (vp_in y1 42 ∧ ((((mi 64 (y1).toNatClampNeg) = 0) → (ab_W call ro 0 0 (ab_lk2 pl_X12_asks) Q (16, [some (.ref 40), some (.int (y1 + 1))], [], 0, 0, (ab_G mi (ab_ul (ab_ul ml 40 40 ((ml 40 40) &&& (-1))) 40 41 ((ml 40 41) &&& (-1))))))) ∧ (¬ ((mi 64 (y1).toNatClampNeg) = 0) → (vp_in y1 42 ∧ (ab_W call ro 0 0 (ab_lk2 pl_X12_asks) Q (16, [some (.ref 40), some (.int (y1 + 1))], [], 0, 0, (ab_G mi (ab_ul (ab_ul ml 40 40 ((ml 40 40) &&& (-1))) 40 41 ((ml 40 41) &&& (ml 66 (y1).toNatClampNeg))))))))))) ∧ (¬ ((mi 64 (y1).toNatClampNeg) = 0) → (vp_in y1 42 ∧ (vp_in y1 42 ∧ ((((mi 64 (y1).toNatClampNeg) = 0) → (ab_W call ro 0 0 (ab_lk2 pl_X12_asks) Q (16, [some (.ref 40), some (.int (y1 + 1))], [], 0, 0, (ab_G mi (ab_ul (ab_ul ml 40 40 ((ml 40 40) &&& (ml 65 (y1).toNatClampNeg))) 40 41 ((ml 40 41) &&& (-1))))))) ∧ (¬ ((mi 64 (y1).toNatClampNeg) = 0) → (vp_in y1 42 ∧ (ab_W call ro 0 0 (ab_lk2 pl_X12_asks) Q (16, [some (.ref 40), some (.int (y1 + 1))], [], 0, 0, (ab_G mi (ab_ul (ab_ul ml 40 40 ((ml 40 40) &&& (ml 65 (y1).toNatClampNeg))) 40 41 ((ml 40 41) &&& (ml 66 (y1).toNatClampNeg))))))))))))))) ∧ (¬ (y1 < (mi 40 36)) → ((((lg_cmp (ml 40 40) 0) = 0) → ((((lg_cmp (ml 40 41) 0) = 0) → (ab_W call ro 0 0 (ab_lk2 pl_X12_asks) Q (124, [some (.ref 40), some (.int 0)], [], 0, 0, (ab_G (ab_ui (ab_ui mi 40 42 2) 40 43 (-1)) ml)))) ∧ (¬ ((lg_cmp (ml 40 41) 0) = 0) → (ab_W call ro 0 0 (ab_lk2 pl_X12_asks) Q (124, [some (.ref 40), some (.int 0)], [], 0, 0, (ab_G (ab_ui (ab_ui mi 40 42 0) 40 43 (-1)) ml)))))) ∧ (¬ ((lg_cmp (ml 40 40) 0) = 0) → (ab_W call ro 0 0 (ab_lk2 pl_X12_asks) Q (124, [some (.ref 40), some (.int 0)], [], 0, 0, (ab_G (ab_ui (ab_ui mi 40 42 0) 40 43 (-1)) ml))))))) :
    ab_W call ro 0 0 (ab_lk2 pl_X12_asks) Q (16, [some (.ref 40), some (.int y1)], [], 0, 0, ab_G mi ml) := by
  refine ab_wk 4 (f' := (if y1 < (mi 40 36) then 24 else 90, [some (.ref 40), some (.int y1)], [], 0, 0, (ab_G mi ml))) rfl ⟨trivial, trivial, trivial, trivial, trivial⟩ ?_
  refine ab_wi (fun c => ?_) (fun c => ?_)
  · have h := h.1 c
    obtain ⟨p0, h⟩ := h
    refine ab_wk 8 (f' := (if (mi 64 (y1).toNatClampNeg) = 0 then 47 else 38, [some (.ref 40), some (.int y1)], [.long (ml 40 40), .ref 40], 0, 0, (ab_G mi ml))) rfl ⟨trivial, trivial, trivial, trivial, trivial, trivial, p0, trivial, trivial⟩ ?_
    refine ab_wi (fun c => ?_) (fun c => ?_)
    · have h := h.1 c
      obtain ⟨p0, h⟩ := h
      refine ab_wk 11 (f' := (if (mi 64 (y1).toNatClampNeg) = 0 then 77 else 68, [some (.ref 40), some (.int y1)], [.long (ml 40 41), .ref 40], 0, 0, (ab_G mi (ab_ul ml 40 40 ((ml 40 40) &&& (-1)))))) rfl ⟨trivial, trivial, trivial, trivial, trivial, trivial, trivial, trivial, trivial, p0, trivial, trivial⟩ ?_
      refine ab_wi (fun c => ?_) (fun c => ?_)
      · have h := h.1 c
        exact ab_wk 5 (f' := (16, [some (.ref 40), some (.int (y1 + 1))], [], 0, 0, (ab_G mi (ab_ul (ab_ul ml 40 40 ((ml 40 40) &&& (-1))) 40 41 ((ml 40 41) &&& (-1)))))) rfl ⟨trivial, trivial, trivial, trivial, trivial, trivial⟩ h
      · have h := h.2 c
        obtain ⟨p0, h⟩ := h
        exact ab_wk 9 (f' := (16, [some (.ref 40), some (.int (y1 + 1))], [], 0, 0, (ab_G mi (ab_ul (ab_ul ml 40 40 ((ml 40 40) &&& (-1))) 40 41 ((ml 40 41) &&& (ml 66 (y1).toNatClampNeg)))))) rfl ⟨trivial, trivial, trivial, p0, trivial, trivial, trivial, trivial, trivial, trivial⟩ h
    · have h := h.2 c
      obtain ⟨p0, p1, h⟩ := h
      refine ab_wk 15 (f' := (if (mi 64 (y1).toNatClampNeg) = 0 then 77 else 68, [some (.ref 40), some (.int y1)], [.long (ml 40 41), .ref 40], 0, 0, (ab_G mi (ab_ul ml 40 40 ((ml 40 40) &&& (ml 65 (y1).toNatClampNeg)))))) rfl ⟨trivial, trivial, trivial, p0, trivial, trivial, trivial, trivial, trivial, trivial, trivial, trivial, trivial, p1, trivial, trivial⟩ ?_
      refine ab_wi (fun c => ?_) (fun c => ?_)
      · have h := h.1 c
        exact ab_wk 5 (f' := (16, [some (.ref 40), some (.int (y1 + 1))], [], 0, 0, (ab_G mi (ab_ul (ab_ul ml 40 40 ((ml 40 40) &&& (ml 65 (y1).toNatClampNeg))) 40 41 ((ml 40 41) &&& (-1)))))) rfl ⟨trivial, trivial, trivial, trivial, trivial, trivial⟩ h
      · have h := h.2 c
        obtain ⟨p0, h⟩ := h
        exact ab_wk 9 (f' := (16, [some (.ref 40), some (.int (y1 + 1))], [], 0, 0, (ab_G mi (ab_ul (ab_ul ml 40 40 ((ml 40 40) &&& (ml 65 (y1).toNatClampNeg))) 40 41 ((ml 40 41) &&& (ml 66 (y1).toNatClampNeg)))))) rfl ⟨trivial, trivial, trivial, p0, trivial, trivial, trivial, trivial, trivial, trivial⟩ h
  · have h := h.2 c
    refine ab_wk 6 (f' := (if (lg_cmp (ml 40 40) 0) = 0 then 100 else 113, [some (.ref 40), some (.int y1)], [.ref 40], 0, 0, (ab_G mi ml))) rfl ⟨trivial, trivial, trivial, trivial, trivial, trivial, trivial⟩ ?_
    refine ab_wi (fun c => ?_) (fun c => ?_)
    · have h := h.1 c
      refine ab_wk 5 (f' := (if (lg_cmp (ml 40 41) 0) = 0 then 109 else 113, [some (.ref 40), some (.int y1)], [.ref 40], 0, 0, (ab_G mi ml))) rfl ⟨trivial, trivial, trivial, trivial, trivial, trivial⟩ ?_
      refine ab_wi (fun c => ?_) (fun c => ?_)
      · have h := h.1 c
        exact ab_wk 8 (f' := (124, [some (.ref 40), some (.int 0)], [], 0, 0, (ab_G (ab_ui (ab_ui mi 40 42 2) 40 43 (-1)) ml))) rfl ⟨trivial, trivial, trivial, trivial, trivial, trivial, trivial, trivial, trivial⟩ h
      · have h := h.2 c
        exact ab_wk 7 (f' := (124, [some (.ref 40), some (.int 0)], [], 0, 0, (ab_G (ab_ui (ab_ui mi 40 42 0) 40 43 (-1)) ml))) rfl ⟨trivial, trivial, trivial, trivial, trivial, trivial, trivial, trivial⟩ h
    · have h := h.2 c
      exact ab_wk 7 (f' := (124, [some (.ref 40), some (.int 0)], [], 0, 0, (ab_G (ab_ui (ab_ui mi 40 42 0) 40 43 (-1)) ml))) rfl ⟨trivial, trivial, trivial, trivial, trivial, trivial, trivial, trivial⟩ h
theorem vc_X12_asks_124 {call : Nat → List Value → ab_S → Option Value → ab_S → Prop} {ro : ab_E} {Q : Option Value → ab_S → Prop} (y1 : Int32) (mi : Nat → Nat → Int32) (ml : Nat → Nat → Int64)
    (h : ((y1 < (mi 40 36)) → ((((mi 40 42) = 2) → (Q none (ab_G mi ml))) ∧ (¬ ((mi 40 42) = 2) → (vp_in y1 42 ∧ ((((mi 64 (y1).toNatClampNeg) = 0) → ((((mi 40 43) < 0) → (vp_in y1 42 ∧ ((((lg_cmp ((ml 65 (y1).toNatClampNeg) &&& (ml 40 40)) 0) = 0) → (vp_in y1 42 ∧ ((((lg_cmp ((ml 66 (y1).toNatClampNeg) &&& (ml 40 41)) 0) = 0) → (ab_W call ro 0 0 (ab_lk2 pl_X12_asks) Q (124, [some (.ref 40), some (.int (y1 + 1))], [], 0, 0, (ab_G (ab_ui (ab_ui mi 40 42 3) 40 43 y1) ml)))) ∧ (¬ ((lg_cmp ((ml 66 (y1).toNatClampNeg) &&& (ml 40 41)) 0) = 0) → (ab_W call ro 0 0 (ab_lk2 pl_X12_asks) Q (124, [some (.ref 40), some (.int (y1 + 1))], [], 0, 0, (ab_G mi ml))))))) ∧ (¬ ((lg_cmp ((ml 65 (y1).toNatClampNeg) &&& (ml 40 40)) 0) = 0) → (ab_W call ro 0 0 (ab_lk2 pl_X12_asks) Q (124, [some (.ref 40), some (.int (y1 + 1))], [], 0, 0, (ab_G mi ml))))))) ∧ (¬ ((mi 40 43) < 0) → (ab_W call ro 0 0 (ab_lk2 pl_X12_asks) Q (124, [some (.ref 40), some (.int (y1 + 1))], [], 0, 0, (ab_G mi ml)))))) ∧ (¬ ((mi 64 (y1).toNatClampNeg) = 0) → (ab_W call ro 0 0 (ab_lk2 pl_X12_asks) Q (124, [some (.ref 40), some (.int (y1 + 1))], [], 0, 0, (ab_G mi ml))))))))) ∧ (¬ (y1 < (mi 40 36)) → (Q none (ab_G mi ml)))) :
    ab_W call ro 0 0 (ab_lk2 pl_X12_asks) Q (124, [some (.ref 40), some (.int y1)], [], 0, 0, ab_G mi ml) := by
  refine ab_wk 4 (f' := (if y1 < (mi 40 36) then 132 else 204, [some (.ref 40), some (.int y1)], [], 0, 0, (ab_G mi ml))) rfl ⟨trivial, trivial, trivial, trivial, trivial⟩ ?_
  refine ab_wi (fun c => ?_) (fun c => ?_)
  · have h := h.1 c
    refine ab_wk 4 (f' := (if (mi 40 42) = 2 then 204 else 140, [some (.ref 40), some (.int y1)], [], 0, 0, (ab_G mi ml))) rfl ⟨trivial, trivial, trivial, trivial, trivial⟩ ?_
    refine ab_wi (fun c => ?_) (fun c => ?_)
    · have h := h.1 c
      exact ab_wr 1 rfl trivial h
    · have h := h.2 c
      obtain ⟨p0, h⟩ := h
      refine ab_wk 5 (f' := (if (mi 64 (y1).toNatClampNeg) = 0 then 149 else 198, [some (.ref 40), some (.int y1)], [], 0, 0, (ab_G mi ml))) rfl ⟨trivial, trivial, trivial, p0, trivial, trivial⟩ ?_
      refine ab_wi (fun c => ?_) (fun c => ?_)
      · have h := h.1 c
        refine ab_wk 3 (f' := (if (mi 40 43) < 0 then 156 else 198, [some (.ref 40), some (.int y1)], [], 0, 0, (ab_G mi ml))) rfl ⟨trivial, trivial, trivial, trivial⟩ ?_
        refine ab_wi (fun c => ?_) (fun c => ?_)
        · have h := h.1 c
          obtain ⟨p0, h⟩ := h
          refine ab_wk 10 (f' := (if (lg_cmp ((ml 65 (y1).toNatClampNeg) &&& (ml 40 40)) 0) = 0 then 172 else 198, [some (.ref 40), some (.int y1)], [], 0, 0, (ab_G mi ml))) rfl ⟨trivial, trivial, trivial, p0, trivial, trivial, trivial, trivial, trivial, trivial, trivial⟩ ?_
          refine ab_wi (fun c => ?_) (fun c => ?_)
          · have h := h.1 c
            obtain ⟨p0, h⟩ := h
            refine ab_wk 10 (f' := (if (lg_cmp ((ml 66 (y1).toNatClampNeg) &&& (ml 40 41)) 0) = 0 then 188 else 198, [some (.ref 40), some (.int y1)], [], 0, 0, (ab_G mi ml))) rfl ⟨trivial, trivial, trivial, p0, trivial, trivial, trivial, trivial, trivial, trivial, trivial⟩ ?_
            refine ab_wi (fun c => ?_) (fun c => ?_)
            · have h := h.1 c
              exact ab_wk 8 (f' := (124, [some (.ref 40), some (.int (y1 + 1))], [], 0, 0, (ab_G (ab_ui (ab_ui mi 40 42 3) 40 43 y1) ml))) rfl ⟨trivial, trivial, trivial, trivial, trivial, trivial, trivial, trivial, trivial⟩ h
            · have h := h.2 c
              exact ab_wk 2 (f' := (124, [some (.ref 40), some (.int (y1 + 1))], [], 0, 0, (ab_G mi ml))) rfl ⟨trivial, trivial, trivial⟩ h
          · have h := h.2 c
            exact ab_wk 2 (f' := (124, [some (.ref 40), some (.int (y1 + 1))], [], 0, 0, (ab_G mi ml))) rfl ⟨trivial, trivial, trivial⟩ h
        · have h := h.2 c
          exact ab_wk 2 (f' := (124, [some (.ref 40), some (.int (y1 + 1))], [], 0, 0, (ab_G mi ml))) rfl ⟨trivial, trivial, trivial⟩ h
      · have h := h.2 c
        exact ab_wk 2 (f' := (124, [some (.ref 40), some (.int (y1 + 1))], [], 0, 0, (ab_G mi ml))) rfl ⟨trivial, trivial, trivial⟩ h
  · have h := h.2 c
    exact ab_wr 1 rfl trivial h
theorem vc_X12_takesNone_0 {call : Nat → List Value → ab_S → Option Value → ab_S → Prop} {ro : ab_E} {Q : Option Value → ab_S → Prop}  (mi : Nat → Nat → Int32) (ml : Nat → Nat → Int64)
    (h : ab_W call ro 0 0 (ab_lk2 pl_X12_takesNone) Q (2, [some (.ref 40), some (.int 0)], [], 0, 0, (ab_G mi ml))) :
    ab_W call ro 0 0 (ab_lk2 pl_X12_takesNone) Q (0, [some (.ref 40), none], [], 0, 0, ab_G mi ml) := by
  exact ab_wk 2 (f' := (2, [some (.ref 40), some (.int 0)], [], 0, 0, (ab_G mi ml))) rfl ⟨trivial, trivial, trivial⟩ h
theorem vc_X12_takesNone_2 {call : Nat → List Value → ab_S → Option Value → ab_S → Prop} {ro : ab_E} {Q : Option Value → ab_S → Prop} (y1 : Int32) (mi : Nat → Nat → Int32) (ml : Nat → Nat → Int64)
    (h : ((y1 < 30) → (vp_in y1 30 ∧ (ab_W call ro 0 0 (ab_lk2 pl_X12_takesNone) Q (2, [some (.ref 40), some (.int (y1 + 1))], [], 0, 0, (ab_G (ab_ui mi 67 (y1).toNatClampNeg (vp_nar .boolean 0)) ml))))) ∧ (¬ (y1 < 30) → (Q none (ab_G mi ml)))) :
    ab_W call ro 0 0 (ab_lk2 pl_X12_takesNone) Q (2, [some (.ref 40), some (.int y1)], [], 0, 0, ab_G mi ml) := by
  refine ab_wk 3 (f' := (if y1 < 30 then 8 else 21, [some (.ref 40), some (.int y1)], [], 0, 0, (ab_G mi ml))) rfl ⟨trivial, trivial, trivial, trivial⟩ ?_
  refine ab_wi (fun c => ?_) (fun c => ?_)
  · have h := h.1 c
    obtain ⟨p0, h⟩ := h
    exact ab_wk 7 (f' := (2, [some (.ref 40), some (.int (y1 + 1))], [], 0, 0, (ab_G (ab_ui mi 67 (y1).toNatClampNeg (vp_nar .boolean 0)) ml))) rfl ⟨trivial, trivial, trivial, trivial, p0, trivial, trivial, trivial⟩ h
  · have h := h.2 c
    exact ab_wr 1 rfl trivial h
theorem vc_X12_buildsLaw_0 {call : Nat → List Value → ab_S → Option Value → ab_S → Prop} {ro : ab_E} {Q : Option Value → ab_S → Prop}  (mi : Nat → Nat → Int32) (ml : Nat → Nat → Int64)
    (h : ∃ (mi1 : Nat → Nat → Int32) (ml2 : Nat → Nat → Int64), call 189 [.ref 40] (ab_G mi ml) none (ab_G mi1 ml2) ∧ (∃ (mi3 : Nat → Nat → Int32) (ml4 : Nat → Nat → Int64), call 187 [.ref 40] (ab_G mi1 ml2) none (ab_G mi3 ml4) ∧ (Q none (ab_G mi3 ml4)))) :
    ab_W call ro 0 0 (ab_lk2 pl_X12_buildsLaw) Q (0, [some (.ref 40)], [], 0, 0, ab_G mi ml) := by
  obtain ⟨mi1, ml2, hc, h⟩ := h
  refine ab_wc 2 (c := 189) (as := [.ref 40]) (pc := 4) (ll := [some (.ref 40)]) (st := []) (c1 := 0) (s1 := 0) (g := (ab_G mi ml)) rfl ⟨trivial, trivial⟩ hc ?_
  obtain ⟨mi3, ml4, hc, h⟩ := h
  refine ab_wc 2 (c := 187) (as := [.ref 40]) (pc := 8) (ll := [some (.ref 40)]) (st := []) (c1 := 0) (s1 := 0) (g := (ab_G mi1 ml2)) rfl ⟨trivial, trivial⟩ hc ?_
  exact ab_wr 1 rfl trivial h
theorem vc_X12_worlds_0 {call : Nat → List Value → ab_S → Option Value → ab_S → Prop} {ro : ab_E} {Q : Option Value → ab_S → Prop}  (mi : Nat → Nat → Int32) (ml : Nat → Nat → Int64)
    (h : ab_W call ro 0 0 (ab_lk2 pl_X12_worlds) Q (4, [some (.ref 40), some (.int 0), some (.int 0)], [], 0, 0, (ab_G mi ml))) :
    ab_W call ro 0 0 (ab_lk2 pl_X12_worlds) Q (0, [some (.ref 40), none, none], [], 0, 0, ab_G mi ml) := by
  exact ab_wk 4 (f' := (4, [some (.ref 40), some (.int 0), some (.int 0)], [], 0, 0, (ab_G mi ml))) rfl ⟨trivial, trivial, trivial, trivial, trivial⟩ h
theorem vc_X12_worlds_4 {call : Nat → List Value → ab_S → Option Value → ab_S → Prop} {ro : ab_E} {Q : Option Value → ab_S → Prop} (y1 : Int32) (y2 : Int32) (mi : Nat → Nat → Int32) (ml : Nat → Nat → Int64)
    (h : ((y2 < 128) → (∃ (r3 : Int32) (mi1 : Nat → Nat → Int32) (ml2 : Nat → Nat → Int64), call 160 [.long (ml 40 40), .long (ml 40 41), .int y2] (ab_G mi ml) (some (.int r3)) (ab_G mi1 ml2) ∧ (((r3 = 0) → (ab_W call ro 0 0 (ab_lk2 pl_X12_worlds) Q (4, [some (.ref 40), some (.int (y1 + 0)), some (.int (y2 + 1))], [], 0, 0, (ab_G mi1 ml2)))) ∧ (¬ (r3 = 0) → (ab_W call ro 0 0 (ab_lk2 pl_X12_worlds) Q (4, [some (.ref 40), some (.int (y1 + 1)), some (.int (y2 + 1))], [], 0, 0, (ab_G mi1 ml2))))))) ∧ (¬ (y2 < 128) → (Q (some (.int y1)) (ab_G mi ml)))) :
    ab_W call ro 0 0 (ab_lk2 pl_X12_worlds) Q (4, [some (.ref 40), some (.int y1), some (.int y2)], [], 0, 0, ab_G mi ml) := by
  refine ab_wk 3 (f' := (if y2 < 128 then 11 else 40, [some (.ref 40), some (.int y1), some (.int y2)], [], 0, 0, (ab_G mi ml))) rfl ⟨trivial, trivial, trivial, trivial⟩ ?_
  refine ab_wi (fun c => ?_) (fun c => ?_)
  · have h := h.1 c
    obtain ⟨r3, mi1, ml2, hc, h⟩ := h
    refine ab_wc 7 (c := 160) (as := [.long (ml 40 40), .long (ml 40 41), .int y2]) (pc := 24) (ll := [some (.ref 40), some (.int y1), some (.int y2)]) (st := [.int y1]) (c1 := 0) (s1 := 0) (g := (ab_G mi ml)) rfl ⟨trivial, trivial, trivial, trivial, trivial, trivial, trivial⟩ hc ?_
    refine ab_wk 1 (f' := (if r3 = 0 then 31 else 27, [some (.ref 40), some (.int y1), some (.int y2)], [.int y1], 0, 0, (ab_G mi1 ml2))) rfl ⟨trivial, trivial⟩ ?_
    refine ab_wi (fun c => ?_) (fun c => ?_)
    · have h := h.1 c
      exact ab_wk 5 (f' := (4, [some (.ref 40), some (.int (y1 + 0)), some (.int (y2 + 1))], [], 0, 0, (ab_G mi1 ml2))) rfl ⟨trivial, trivial, trivial, trivial, trivial, trivial⟩ h
    · have h := h.2 c
      exact ab_wk 6 (f' := (4, [some (.ref 40), some (.int (y1 + 1)), some (.int (y2 + 1))], [], 0, 0, (ab_G mi1 ml2))) rfl ⟨trivial, trivial, trivial, trivial, trivial, trivial, trivial⟩ h
  · have h := h.2 c
    exact ab_wr 2 rfl ⟨trivial, trivial⟩ h
theorem vc_X12_allowed_0 {call : Nat → List Value → ab_S → Option Value → ab_S → Prop} {ro : ab_E} {Q : Option Value → ab_S → Prop} (x1 : Int32) (mi : Nat → Nat → Int32) (ml : Nat → Nat → Int64)
    (h : ∃ (r3 : Int32) (mi1 : Nat → Nat → Int32) (ml2 : Nat → Nat → Int64), call 178 [.int x1, .int 0, .int 127] (ab_G (ab_ui mi 40 0 0) ml) (some (.int r3)) (ab_G mi1 ml2) ∧ (((r3 = 0) → (Q (some (.int (-1))) (ab_G mi1 ml2))) ∧ (¬ (r3 = 0) → (∃ (mi4 : Nat → Nat → Int32) (ml5 : Nat → Nat → Int64), call 190 [.ref 40] (ab_G mi1 ml2) none (ab_G mi4 ml5) ∧ (∃ (r8 : Int32) (mi6 : Nat → Nat → Int32) (ml7 : Nat → Nat → Int64), call 160 [.long (ml5 40 40), .long (ml5 40 41), .int x1] (ab_G mi4 ml5) (some (.int r8)) (ab_G mi6 ml7) ∧ (((r8 = 0) → (Q (some (.int 0)) (ab_G mi6 ml7))) ∧ (¬ (r8 = 0) → (Q (some (.int 1)) (ab_G mi6 ml7))))))))) :
    ab_W call ro 0 0 (ab_lk2 pl_X12_allowed) Q (0, [some (.ref 40), some (.int x1)], [], 0, 0, ab_G mi ml) := by
  obtain ⟨r3, mi1, ml2, hc, h⟩ := h
  refine ab_wc 7 (c := 178) (as := [.int x1, .int 0, .int 127]) (pc := 12) (ll := [some (.ref 40), some (.int x1)]) (st := []) (c1 := 0) (s1 := 0) (g := (ab_G (ab_ui mi 40 0 0) ml)) rfl ⟨trivial, trivial, trivial, trivial, trivial, trivial, trivial⟩ hc ?_
  refine ab_wk 1 (f' := (if r3 = 0 then 15 else 17, [some (.ref 40), some (.int x1)], [], 0, 0, (ab_G mi1 ml2))) rfl ⟨trivial, trivial⟩ ?_
  refine ab_wi (fun c => ?_) (fun c => ?_)
  · have h := h.1 c
    exact ab_wr 2 rfl ⟨trivial, trivial⟩ h
  · have h := h.2 c
    obtain ⟨mi4, ml5, hc, h⟩ := h
    refine ab_wc 2 (c := 190) (as := [.ref 40]) (pc := 21) (ll := [some (.ref 40), some (.int x1)]) (st := []) (c1 := 0) (s1 := 0) (g := (ab_G mi1 ml2)) rfl ⟨trivial, trivial⟩ hc ?_
    obtain ⟨r8, mi6, ml7, hc, h⟩ := h
    refine ab_wc 6 (c := 160) (as := [.long (ml5 40 40), .long (ml5 40 41), .int x1]) (pc := 33) (ll := [some (.ref 40), some (.int x1)]) (st := []) (c1 := 0) (s1 := 0) (g := (ab_G mi4 ml5)) rfl ⟨trivial, trivial, trivial, trivial, trivial, trivial⟩ hc ?_
    refine ab_wk 1 (f' := (if r8 = 0 then 40 else 36, [some (.ref 40), some (.int x1)], [], 0, 0, (ab_G mi6 ml7))) rfl ⟨trivial, trivial⟩ ?_
    refine ab_wi (fun c => ?_) (fun c => ?_)
    · have h := h.1 c
      exact ab_wr 2 rfl ⟨trivial, trivial⟩ h
    · have h := h.2 c
      exact ab_wr 3 rfl ⟨trivial, trivial, trivial⟩ h
theorem vc_X12_rule_0 {call : Nat → List Value → ab_S → Option Value → ab_S → Prop} {ro : ab_E} {Q : Option Value → ab_S → Prop} (x1 : Int32) (mi : Nat → Nat → Int32) (ml : Nat → Nat → Int64)
    (h : ∃ (mi1 : Nat → Nat → Int32) (ml2 : Nat → Nat → Int64), call 190 [.ref 40] (ab_G (ab_ui mi 40 0 0) ml) none (ab_G mi1 ml2) ∧ (((x1 = 0) → (Q (some (.int (mi1 40 12))) (ab_G mi1 ml2))) ∧ (¬ (x1 = 0) → (((x1 = 1) → (∃ (r5 : Int32) (mi3 : Nat → Nat → Int32) (ml4 : Nat → Nat → Int64), call 191 [.ref 40] (ab_G mi1 ml2) (some (.int r5)) (ab_G mi3 ml4) ∧ (Q (some (.int r5)) (ab_G mi3 ml4)))) ∧ (¬ (x1 = 1) → (((x1 = 2) → (Q (some (.int (mi1 40 42))) (ab_G mi1 ml2))) ∧ (¬ (x1 = 2) → (((x1 = 3) → (Q (some (.int (mi1 40 43))) (ab_G mi1 ml2))) ∧ (¬ (x1 = 3) → (Q (some (.int (-1))) (ab_G mi1 ml2))))))))))) :
    ab_W call ro 0 0 (ab_lk2 pl_X12_rule) Q (0, [some (.ref 40), some (.int x1)], [], 0, 0, ab_G mi ml) := by
  obtain ⟨mi1, ml2, hc, h⟩ := h
  refine ab_wc 5 (c := 190) (as := [.ref 40]) (pc := 9) (ll := [some (.ref 40), some (.int x1)]) (st := []) (c1 := 0) (s1 := 0) (g := (ab_G (ab_ui mi 40 0 0) ml)) rfl ⟨trivial, trivial, trivial, trivial, trivial⟩ hc ?_
  refine ab_wk 2 (f' := (ab_sw x1 [(0, 40), (1, 45), (2, 50), (3, 55)] 60, [some (.ref 40), some (.int x1)], [], 0, 0, (ab_G mi1 ml2))) rfl ⟨trivial, trivial, trivial⟩ ?_
  refine ab_wi (fun c => ?_) (fun c => ?_)
  · have h := h.1 c
    exact ab_wr 3 rfl ⟨trivial, trivial, trivial⟩ h
  · have h := h.2 c
    refine ab_wi (fun c => ?_) (fun c => ?_)
    · have h := h.1 c
      obtain ⟨r5, mi3, ml4, hc, h⟩ := h
      refine ab_wc 2 (c := 191) (as := [.ref 40]) (pc := 49) (ll := [some (.ref 40), some (.int x1)]) (st := []) (c1 := 0) (s1 := 0) (g := (ab_G mi1 ml2)) rfl ⟨trivial, trivial⟩ hc ?_
      exact ab_wr 1 rfl trivial h
    · have h := h.2 c
      refine ab_wi (fun c => ?_) (fun c => ?_)
      · have h := h.1 c
        exact ab_wr 3 rfl ⟨trivial, trivial, trivial⟩ h
      · have h := h.2 c
        refine ab_wi (fun c => ?_) (fun c => ?_)
        · have h := h.1 c
          exact ab_wr 3 rfl ⟨trivial, trivial, trivial⟩ h
        · have h := h.2 c
          exact ab_wr 2 rfl ⟨trivial, trivial⟩ h
theorem vc_X12_line_0 {call : Nat → List Value → ab_S → Option Value → ab_S → Prop} {ro : ab_E} {Q : Option Value → ab_S → Prop} (x1 : Int32) (x2 : Int32) (mi : Nat → Nat → Int32) (ml : Nat → Nat → Int64)
    (h : ((x1 < 0) → (Q (some (.int (-1))) (ab_G (ab_ui mi 40 0 0) ml))) ∧ (¬ (x1 < 0) → (((x1 < (mi 40 12)) → (∃ (r3 : Int32) (mi1 : Nat → Nat → Int32) (ml2 : Nat → Nat → Int64), call 178 [.int x2, .int 0, .int 1] (ab_G (ab_ui mi 40 0 0) ml) (some (.int r3)) (ab_G mi1 ml2) ∧ (((r3 = 0) → (Q (some (.int (-1))) (ab_G mi1 ml2))) ∧ (¬ (r3 = 0) → (((x2 = 0) → (vp_in x1 12 ∧ ((((mi1 46 (x1).toNatClampNeg) = 0) → (Q (some (.int 1)) (ab_G mi1 ml2))) ∧ (¬ ((mi1 46 (x1).toNatClampNeg) = 0) → (Q (some (.int 0)) (ab_G mi1 ml2)))))) ∧ (¬ (x2 = 0) → (ab_W call ro 0 0 (ab_lk2 pl_X12_line) Q (52, [some (.ref 40), some (.int x1), some (.int x2), some (.int 0), some (.int 0)], [], 0, 0, (ab_G mi1 ml2))))))))) ∧ (¬ (x1 < (mi 40 12)) → (Q (some (.int (-1))) (ab_G (ab_ui mi 40 0 0) ml)))))) :
    ab_W call ro 0 0 (ab_lk2 pl_X12_line) Q (0, [some (.ref 40), some (.int x1), some (.int x2), none, none], [], 0, 0, ab_G mi ml) := by
  refine ab_wk 5 (f' := (if x1 < 0 then 26 else 9, [some (.ref 40), some (.int x1), some (.int x2), none, none], [], 0, 0, (ab_G (ab_ui mi 40 0 0) ml))) rfl ⟨trivial, trivial, trivial, trivial, trivial, trivial⟩ ?_
  refine ab_wi (fun c => ?_) (fun c => ?_)
  · have h := h.1 c
    exact ab_wr 2 rfl ⟨trivial, trivial⟩ h
  · have h := h.2 c
    refine ab_wk 4 (f' := (if x1 < (mi 40 12) then 17 else 26, [some (.ref 40), some (.int x1), some (.int x2), none, none], [], 0, 0, (ab_G (ab_ui mi 40 0 0) ml))) rfl ⟨trivial, trivial, trivial, trivial, trivial⟩ ?_
    refine ab_wi (fun c => ?_) (fun c => ?_)
    · have h := h.1 c
      obtain ⟨r3, mi1, ml2, hc, h⟩ := h
      refine ab_wc 4 (c := 178) (as := [.int x2, .int 0, .int 1]) (pc := 23) (ll := [some (.ref 40), some (.int x1), some (.int x2), none, none]) (st := []) (c1 := 0) (s1 := 0) (g := (ab_G (ab_ui mi 40 0 0) ml)) rfl ⟨trivial, trivial, trivial, trivial⟩ hc ?_
      refine ab_wk 1 (f' := (if r3 = 0 then 26 else 28, [some (.ref 40), some (.int x1), some (.int x2), none, none], [], 0, 0, (ab_G mi1 ml2))) rfl ⟨trivial, trivial⟩ ?_
      refine ab_wi (fun c => ?_) (fun c => ?_)
      · have h := h.1 c
        exact ab_wr 2 rfl ⟨trivial, trivial⟩ h
      · have h := h.2 c
        refine ab_wk 2 (f' := (if x2 = 0 then 32 else 47, [some (.ref 40), some (.int x1), some (.int x2), none, none], [], 0, 0, (ab_G mi1 ml2))) rfl ⟨trivial, trivial, trivial⟩ ?_
        refine ab_wi (fun c => ?_) (fun c => ?_)
        · have h := h.1 c
          obtain ⟨p0, h⟩ := h
          refine ab_wk 5 (f' := (if (mi1 46 (x1).toNatClampNeg) = 0 then 45 else 41, [some (.ref 40), some (.int x1), some (.int x2), none, none], [], 0, 0, (ab_G mi1 ml2))) rfl ⟨trivial, trivial, trivial, p0, trivial, trivial⟩ ?_
          refine ab_wi (fun c => ?_) (fun c => ?_)
          · have h := h.1 c
            exact ab_wr 2 rfl ⟨trivial, trivial⟩ h
          · have h := h.2 c
            exact ab_wr 3 rfl ⟨trivial, trivial, trivial⟩ h
        · have h := h.2 c
          exact ab_wk 4 (f' := (52, [some (.ref 40), some (.int x1), some (.int x2), some (.int 0), some (.int 0)], [], 0, 0, (ab_G mi1 ml2))) rfl ⟨trivial, trivial, trivial, trivial, trivial⟩ h
    · have h := h.2 c
      exact ab_wr 2 rfl ⟨trivial, trivial⟩ h
theorem vc_X12_line_52 {call : Nat → List Value → ab_S → Option Value → ab_S → Prop} {ro : ab_E} {Q : Option Value → ab_S → Prop} (y1 : Int32) (y2 : Int32) (y3 : Int32) (y4 : Int32) (mi : Nat → Nat → Int32) (ml : Nat → Nat → Int64)
    (h : ((y4 < 128) → (vp_in y1 12 ∧ (vp_in y1 12 ∧ (∃ (r6 : Int32) (mi4 : Nat → Nat → Int32) (ml5 : Nat → Nat → Int64), call 160 [.long (ml 47 (y1).toNatClampNeg), .long (ml 48 (y1).toNatClampNeg), .int y4] (ab_G mi ml) (some (.int r6)) (ab_G mi4 ml5) ∧ (((r6 = 0) → (ab_W call ro 0 0 (ab_lk2 pl_X12_line) Q (52, [some (.ref 40), some (.int y1), some (.int y2), some (.int (y3 + 0)), some (.int (y4 + 1))], [], 0, 0, (ab_G mi4 ml5)))) ∧ (¬ (r6 = 0) → (ab_W call ro 0 0 (ab_lk2 pl_X12_line) Q (52, [some (.ref 40), some (.int y1), some (.int y2), some (.int (y3 + 1)), some (.int (y4 + 1))], [], 0, 0, (ab_G mi4 ml5))))))))) ∧ (¬ (y4 < 128) → (Q (some (.int y3)) (ab_G mi ml)))) :
    ab_W call ro 0 0 (ab_lk2 pl_X12_line) Q (52, [some (.ref 40), some (.int y1), some (.int y2), some (.int y3), some (.int y4)], [], 0, 0, ab_G mi ml) := by
  refine ab_wk 3 (f' := (if y4 < 128 then 60 else 94, [some (.ref 40), some (.int y1), some (.int y2), some (.int y3), some (.int y4)], [], 0, 0, (ab_G mi ml))) rfl ⟨trivial, trivial, trivial, trivial⟩ ?_
  refine ab_wi (fun c => ?_) (fun c => ?_)
  · have h := h.1 c
    obtain ⟨p0, p1, h⟩ := h
    obtain ⟨r6, mi4, ml5, hc, h⟩ := h
    refine ab_wc 11 (c := 160) (as := [.long (ml 47 (y1).toNatClampNeg), .long (ml 48 (y1).toNatClampNeg), .int y4]) (pc := 78) (ll := [some (.ref 40), some (.int y1), some (.int y2), some (.int y3), some (.int y4)]) (st := [.int y3]) (c1 := 0) (s1 := 0) (g := (ab_G mi ml)) rfl ⟨trivial, trivial, trivial, trivial, p0, trivial, trivial, trivial, p1, trivial, trivial⟩ hc ?_
    refine ab_wk 1 (f' := (if r6 = 0 then 85 else 81, [some (.ref 40), some (.int y1), some (.int y2), some (.int y3), some (.int y4)], [.int y3], 0, 0, (ab_G mi4 ml5))) rfl ⟨trivial, trivial⟩ ?_
    refine ab_wi (fun c => ?_) (fun c => ?_)
    · have h := h.1 c
      exact ab_wk 5 (f' := (52, [some (.ref 40), some (.int y1), some (.int y2), some (.int (y3 + 0)), some (.int (y4 + 1))], [], 0, 0, (ab_G mi4 ml5))) rfl ⟨trivial, trivial, trivial, trivial, trivial, trivial⟩ h
    · have h := h.2 c
      exact ab_wk 6 (f' := (52, [some (.ref 40), some (.int y1), some (.int y2), some (.int (y3 + 1)), some (.int (y4 + 1))], [], 0, 0, (ab_G mi4 ml5))) rfl ⟨trivial, trivial, trivial, trivial, trivial, trivial, trivial⟩ h
  · have h := h.2 c
    exact ab_wr 2 rfl ⟨trivial, trivial⟩ h
theorem vc_X12_keepsLaw_0 {call : Nat → List Value → ab_S → Option Value → ab_S → Prop} {ro : ab_E} {Q : Option Value → ab_S → Prop} (x1 : Int32) (x2 : Int32) (mi : Nat → Nat → Int32) (ml : Nat → Nat → Int64)
    (h : ∃ (mi1 : Nat → Nat → Int32) (ml2 : Nat → Nat → Int64), call 189 [.ref 40] (ab_G mi ml) none (ab_G mi1 ml2) ∧ (vp_in x1 30 ∧ (∃ (mi3 : Nat → Nat → Int32) (ml4 : Nat → Nat → Int64), call 187 [.ref 40] (ab_G (ab_ui mi1 67 (x1).toNatClampNeg (vp_nar .boolean 1)) ml2) none (ab_G mi3 ml4) ∧ (vp_in x2 30 ∧ (vp_in x2 30 ∧ (vp_in x2 30 ∧ (ab_W call ro 0 0 (ab_lk2 pl_X12_keepsLaw) Q (44, [some (.ref 40), some (.int x1), some (.int x2), some (.int 0)], [], 0, 0, (ab_G (ab_ui mi3 72 (x2).toNatClampNeg 0) (ab_ul (ab_ul ml4 70 (x2).toNatClampNeg (ml4 40 40)) 71 (x2).toNatClampNeg (ml4 40 41))))))))))) :
    ab_W call ro 0 0 (ab_lk2 pl_X12_keepsLaw) Q (0, [some (.ref 40), some (.int x1), some (.int x2), none], [], 0, 0, ab_G mi ml) := by
  obtain ⟨mi1, ml2, hc, h⟩ := h
  refine ab_wc 2 (c := 189) (as := [.ref 40]) (pc := 4) (ll := [some (.ref 40), some (.int x1), some (.int x2), none]) (st := []) (c1 := 0) (s1 := 0) (g := (ab_G mi ml)) rfl ⟨trivial, trivial⟩ hc ?_
  obtain ⟨p0, h⟩ := h
  obtain ⟨mi3, ml4, hc, h⟩ := h
  refine ab_wc 7 (c := 187) (as := [.ref 40]) (pc := 15) (ll := [some (.ref 40), some (.int x1), some (.int x2), none]) (st := []) (c1 := 0) (s1 := 0) (g := (ab_G (ab_ui mi1 67 (x1).toNatClampNeg (vp_nar .boolean 1)) ml2)) rfl ⟨trivial, trivial, trivial, trivial, p0, trivial, trivial⟩ hc ?_
  obtain ⟨p0, p1, p2, h⟩ := h
  exact ab_wk 19 (f' := (44, [some (.ref 40), some (.int x1), some (.int x2), some (.int 0)], [], 0, 0, (ab_G (ab_ui mi3 72 (x2).toNatClampNeg 0) (ab_ul (ab_ul ml4 70 (x2).toNatClampNeg (ml4 40 40)) 71 (x2).toNatClampNeg (ml4 40 41))))) rfl ⟨trivial, trivial, trivial, trivial, trivial, p0, trivial, trivial, trivial, trivial, trivial, p1, trivial, trivial, trivial, trivial, p2, trivial, trivial, trivial⟩ h
theorem vc_X12_keepsLaw_44 {call : Nat → List Value → ab_S → Option Value → ab_S → Prop} {ro : ab_E} {Q : Option Value → ab_S → Prop} (y1 : Int32) (y2 : Int32) (y3 : Int32) (mi : Nat → Nat → Int32) (ml : Nat → Nat → Int64)
    (h : ((y3 < (mi 40 36)) → (vp_in y3 42 ∧ ((((mi 64 (y3).toNatClampNeg) = 0) → (vp_in y2 30 ∧ (vp_in y3 42 ∧ (vp_in (((42 : Int32) * y2) + (mi 72 (y2).toNatClampNeg)) 1260 ∧ (vp_in y2 30 ∧ (vp_in y3 42 ∧ (vp_in (((42 : Int32) * y2) + (mi 72 (y2).toNatClampNeg)) 1260 ∧ (vp_in y2 30 ∧ (vp_in y2 30 ∧ (ab_W call ro 0 0 (ab_lk2 pl_X12_keepsLaw) Q (44, [some (.ref 40), some (.int y1), some (.int y2), some (.int (y3 + 1))], [], 0, 0, (ab_G (ab_ui mi 72 (y2).toNatClampNeg ((mi 72 (y2).toNatClampNeg) + 1)) (ab_ul (ab_ul ml 73 ((((42 : Int32) * y2) + (mi 72 (y2).toNatClampNeg))).toNatClampNeg (ml 65 (y3).toNatClampNeg)) 74 ((((42 : Int32) * y2) + (mi 72 (y2).toNatClampNeg))).toNatClampNeg (ml 66 (y3).toNatClampNeg)))))))))))))) ∧ (¬ ((mi 64 (y3).toNatClampNeg) = 0) → (ab_W call ro 0 0 (ab_lk2 pl_X12_keepsLaw) Q (44, [some (.ref 40), some (.int y1), some (.int y2), some (.int (y3 + 1))], [], 0, 0, (ab_G mi ml))))))) ∧ (¬ (y3 < (mi 40 36)) → (Q none (ab_G mi ml)))) :
    ab_W call ro 0 0 (ab_lk2 pl_X12_keepsLaw) Q (44, [some (.ref 40), some (.int y1), some (.int y2), some (.int y3)], [], 0, 0, ab_G mi ml) := by
  refine ab_wk 4 (f' := (if y3 < (mi 40 36) then 52 else 121, [some (.ref 40), some (.int y1), some (.int y2), some (.int y3)], [], 0, 0, (ab_G mi ml))) rfl ⟨trivial, trivial, trivial, trivial, trivial⟩ ?_
  refine ab_wi (fun c => ?_) (fun c => ?_)
  · have h := h.1 c
    obtain ⟨p0, h⟩ := h
    refine ab_wk 5 (f' := (if (mi 64 (y3).toNatClampNeg) = 0 then 61 else 115, [some (.ref 40), some (.int y1), some (.int y2), some (.int y3)], [], 0, 0, (ab_G mi ml))) rfl ⟨trivial, trivial, trivial, p0, trivial, trivial⟩ ?_
    refine ab_wi (fun c => ?_) (fun c => ?_)
    · have h := h.1 c
      obtain ⟨p0, p1, p2, p3, p4, p5, p6, p7, h⟩ := h
      exact ab_wk 40 (f' := (44, [some (.ref 40), some (.int y1), some (.int y2), some (.int (y3 + 1))], [], 0, 0, (ab_G (ab_ui mi 72 (y2).toNatClampNeg ((mi 72 (y2).toNatClampNeg) + 1)) (ab_ul (ab_ul ml 73 ((((42 : Int32) * y2) + (mi 72 (y2).toNatClampNeg))).toNatClampNeg (ml 65 (y3).toNatClampNeg)) 74 ((((42 : Int32) * y2) + (mi 72 (y2).toNatClampNeg))).toNatClampNeg (ml 66 (y3).toNatClampNeg))))) rfl ⟨trivial, trivial, trivial, trivial, trivial, trivial, trivial, trivial, p0, trivial, trivial, trivial, trivial, p1, p2, trivial, trivial, trivial, trivial, trivial, trivial, trivial, trivial, p3, trivial, trivial, trivial, trivial, p4, p5, trivial, trivial, trivial, trivial, p6, trivial, trivial, p7, trivial, trivial, trivial⟩ h
    · have h := h.2 c
      exact ab_wk 2 (f' := (44, [some (.ref 40), some (.int y1), some (.int y2), some (.int (y3 + 1))], [], 0, 0, (ab_G mi ml))) rfl ⟨trivial, trivial, trivial⟩ h
  · have h := h.2 c
    exact ab_wr 1 rfl trivial h
theorem vc_X12_isWithin_0 {call : Nat → List Value → ab_S → Option Value → ab_S → Prop} {ro : ab_E} {Q : Option Value → ab_S → Prop} (x1 : Int32) (x2 : Int32) (mi : Nat → Nat → Int32) (ml : Nat → Nat → Int64)
    (h : ab_W call ro 0 0 (ab_lk2 pl_X12_isWithin) Q (5, [some (.ref 40), some (.int x1), some (.int x2), some (.int 1), some (.int 0), none, none], [], 0, 0, (ab_G mi ml))) :
    ab_W call ro 0 0 (ab_lk2 pl_X12_isWithin) Q (0, [some (.ref 40), some (.int x1), some (.int x2), none, none, none, none], [], 0, 0, ab_G mi ml) := by
  exact ab_wk 4 (f' := (5, [some (.ref 40), some (.int x1), some (.int x2), some (.int 1), some (.int 0), none, none], [], 0, 0, (ab_G mi ml))) rfl ⟨trivial, trivial, trivial, trivial, trivial⟩ h
theorem vc_X12_isWithin_5 {call : Nat → List Value → ab_S → Option Value → ab_S → Prop} {ro : ab_E} {Q : Option Value → ab_S → Prop} (y1 : Int32) (y2 : Int32) (y3 : Int32) (y4 : Int32) (mi : Nat → Nat → Int32) (ml : Nat → Nat → Int64)
    (h : vp_in y1 30 ∧ (((y4 < (mi 72 (y1).toNatClampNeg)) → (((y3 = 0) → ((y3 = 0 ∨ y3 = 1) ∧ (Q (some (.int y3)) (ab_G mi ml)))) ∧ (¬ (y3 = 0) → (ab_W call ro 0 0 (ab_lk2 pl_X12_isWithin) Q (26, [some (.ref 40), some (.int y1), some (.int y2), some (.int y3), some (.int y4), some (.int 0), some (.int 0)], [], 0, 0, (ab_G mi ml)))))) ∧ (¬ (y4 < (mi 72 (y1).toNatClampNeg)) → ((y3 = 0 ∨ y3 = 1) ∧ (Q (some (.int y3)) (ab_G mi ml)))))) :
    ab_W call ro 0 0 (ab_lk2 pl_X12_isWithin) Q (5, [some (.ref 40), some (.int y1), some (.int y2), some (.int y3), some (.int y4), none, none], [], 0, 0, ab_G mi ml) := by
  obtain ⟨p0, h⟩ := h
  refine ab_wk 6 (f' := (if y4 < (mi 72 (y1).toNatClampNeg) then 16 else 120, [some (.ref 40), some (.int y1), some (.int y2), some (.int y3), some (.int y4), none, none], [], 0, 0, (ab_G mi ml))) rfl ⟨trivial, trivial, trivial, trivial, p0, trivial, trivial⟩ ?_
  refine ab_wi (fun c => ?_) (fun c => ?_)
  · have h := h.1 c
    refine ab_wk 2 (f' := (if y3 = 0 then 120 else 20, [some (.ref 40), some (.int y1), some (.int y2), some (.int y3), some (.int y4), none, none], [], 0, 0, (ab_G mi ml))) rfl ⟨trivial, trivial, trivial⟩ ?_
    refine ab_wi (fun c => ?_) (fun c => ?_)
    · have h := h.1 c
      obtain ⟨p0, h⟩ := h
      exact ab_wr 2 rfl ⟨trivial, p0⟩ h
    · have h := h.2 c
      exact ab_wk 4 (f' := (26, [some (.ref 40), some (.int y1), some (.int y2), some (.int y3), some (.int y4), some (.int 0), some (.int 0)], [], 0, 0, (ab_G mi ml))) rfl ⟨trivial, trivial, trivial, trivial, trivial⟩ h
  · have h := h.2 c
    obtain ⟨p0, h⟩ := h
    exact ab_wr 2 rfl ⟨trivial, p0⟩ h
theorem vc_X12_isWithin_26 {call : Nat → List Value → ab_S → Option Value → ab_S → Prop} {ro : ab_E} {Q : Option Value → ab_S → Prop} (y1 : Int32) (y2 : Int32) (y3 : Int32) (y4 : Int32) (y5 : Int32) (y6 : Int32) (mi : Nat → Nat → Int32) (ml : Nat → Nat → Int64)
    (h : vp_in y2 30 ∧ (((y6 < (mi 72 (y2).toNatClampNeg)) → (((y5 = 0) → (vp_in (((42 : Int32) * y1) + y4) 1260 ∧ (vp_in (((42 : Int32) * y2) + y6) 1260 ∧ ((((lg_cmp (ml 73 ((((42 : Int32) * y1) + y4)).toNatClampNeg) (ml 73 ((((42 : Int32) * y2) + y6)).toNatClampNeg)) = 0) → (vp_in (((42 : Int32) * y1) + y4) 1260 ∧ (vp_in (((42 : Int32) * y2) + y6) 1260 ∧ ((((lg_cmp (ml 74 ((((42 : Int32) * y1) + y4)).toNatClampNeg) (ml 74 ((((42 : Int32) * y2) + y6)).toNatClampNeg)) = 0) → (ab_W call ro 0 0 (ab_lk2 pl_X12_isWithin) Q (26, [some (.ref 40), some (.int y1), some (.int y2), some (.int y3), some (.int y4), some (.int 1), some (.int (y6 + 1))], [], 0, 0, (ab_G mi ml)))) ∧ (¬ ((lg_cmp (ml 74 ((((42 : Int32) * y1) + y4)).toNatClampNeg) (ml 74 ((((42 : Int32) * y2) + y6)).toNatClampNeg)) = 0) → (ab_W call ro 0 0 (ab_lk2 pl_X12_isWithin) Q (26, [some (.ref 40), some (.int y1), some (.int y2), some (.int y3), some (.int y4), some (.int 0), some (.int (y6 + 1))], [], 0, 0, (ab_G mi ml)))))))) ∧ (¬ ((lg_cmp (ml 73 ((((42 : Int32) * y1) + y4)).toNatClampNeg) (ml 73 ((((42 : Int32) * y2) + y6)).toNatClampNeg)) = 0) → (ab_W call ro 0 0 (ab_lk2 pl_X12_isWithin) Q (26, [some (.ref 40), some (.int y1), some (.int y2), some (.int y3), some (.int y4), some (.int 0), some (.int (y6 + 1))], [], 0, 0, (ab_G mi ml)))))))) ∧ (¬ (y5 = 0) → (ab_W call ro 0 0 (ab_lk2 pl_X12_isWithin) Q (26, [some (.ref 40), some (.int y1), some (.int y2), some (.int y3), some (.int y4), some (.int 1), some (.int (y6 + 1))], [], 0, 0, (ab_G mi ml)))))) ∧ (¬ (y6 < (mi 72 (y2).toNatClampNeg)) → (ab_W call ro 0 0 (ab_lk2 pl_X12_isWithin) Q (5, [some (.ref 40), some (.int y1), some (.int y2), some (.int y5), some (.int (y4 + 1)), none, none], [], 0, 0, (ab_G mi ml)))))) :
    ab_W call ro 0 0 (ab_lk2 pl_X12_isWithin) Q (26, [some (.ref 40), some (.int y1), some (.int y2), some (.int y3), some (.int y4), some (.int y5), some (.int y6)], [], 0, 0, ab_G mi ml) := by
  obtain ⟨p0, h⟩ := h
  refine ab_wk 6 (f' := (if y6 < (mi 72 (y2).toNatClampNeg) then 37 else 111, [some (.ref 40), some (.int y1), some (.int y2), some (.int y3), some (.int y4), some (.int y5), some (.int y6)], [], 0, 0, (ab_G mi ml))) rfl ⟨trivial, trivial, trivial, trivial, p0, trivial, trivial⟩ ?_
  refine ab_wi (fun c => ?_) (fun c => ?_)
  · have h := h.1 c
    refine ab_wk 2 (f' := (if y5 = 0 then 42 else 98, [some (.ref 40), some (.int y1), some (.int y2), some (.int y3), some (.int y4), some (.int y5), some (.int y6)], [], 0, 0, (ab_G mi ml))) rfl ⟨trivial, trivial, trivial⟩ ?_
    refine ab_wi (fun c => ?_) (fun c => ?_)
    · have h := h.1 c
      obtain ⟨p0, p1, h⟩ := h
      refine ab_wk 18 (f' := (if (lg_cmp (ml 73 ((((42 : Int32) * y1) + y4)).toNatClampNeg) (ml 73 ((((42 : Int32) * y2) + y6)).toNatClampNeg)) = 0 then 70 else 102, [some (.ref 40), some (.int y1), some (.int y2), some (.int y3), some (.int y4), some (.int y5), some (.int y6)], [], 0, 0, (ab_G mi ml))) rfl ⟨trivial, trivial, trivial, trivial, trivial, trivial, trivial, p0, trivial, trivial, trivial, trivial, trivial, trivial, trivial, p1, trivial, trivial, trivial⟩ ?_
      refine ab_wi (fun c => ?_) (fun c => ?_)
      · have h := h.1 c
        obtain ⟨p0, p1, h⟩ := h
        refine ab_wk 18 (f' := (if (lg_cmp (ml 74 ((((42 : Int32) * y1) + y4)).toNatClampNeg) (ml 74 ((((42 : Int32) * y2) + y6)).toNatClampNeg)) = 0 then 98 else 102, [some (.ref 40), some (.int y1), some (.int y2), some (.int y3), some (.int y4), some (.int y5), some (.int y6)], [], 0, 0, (ab_G mi ml))) rfl ⟨trivial, trivial, trivial, trivial, trivial, trivial, trivial, p0, trivial, trivial, trivial, trivial, trivial, trivial, trivial, p1, trivial, trivial, trivial⟩ ?_
        refine ab_wi (fun c => ?_) (fun c => ?_)
        · have h := h.1 c
          exact ab_wk 5 (f' := (26, [some (.ref 40), some (.int y1), some (.int y2), some (.int y3), some (.int y4), some (.int 1), some (.int (y6 + 1))], [], 0, 0, (ab_G mi ml))) rfl ⟨trivial, trivial, trivial, trivial, trivial, trivial⟩ h
        · have h := h.2 c
          exact ab_wk 4 (f' := (26, [some (.ref 40), some (.int y1), some (.int y2), some (.int y3), some (.int y4), some (.int 0), some (.int (y6 + 1))], [], 0, 0, (ab_G mi ml))) rfl ⟨trivial, trivial, trivial, trivial, trivial⟩ h
      · have h := h.2 c
        exact ab_wk 4 (f' := (26, [some (.ref 40), some (.int y1), some (.int y2), some (.int y3), some (.int y4), some (.int 0), some (.int (y6 + 1))], [], 0, 0, (ab_G mi ml))) rfl ⟨trivial, trivial, trivial, trivial, trivial⟩ h
    · have h := h.2 c
      exact ab_wk 5 (f' := (26, [some (.ref 40), some (.int y1), some (.int y2), some (.int y3), some (.int y4), some (.int 1), some (.int (y6 + 1))], [], 0, 0, (ab_G mi ml))) rfl ⟨trivial, trivial, trivial, trivial, trivial, trivial⟩ h
  · have h := h.2 c
    exact ab_wk 4 (f' := (5, [some (.ref 40), some (.int y1), some (.int y2), some (.int y5), some (.int (y4 + 1)), some (.int y5), some (.int y6)], [], 0, 0, (ab_G mi ml))) rfl ⟨trivial, trivial, trivial, trivial, trivial⟩ (ab_drop h (ab_lrc _ (ab_lrc _ (ab_lrc _ (ab_lrc _ (ab_lrc _ (ab_lrn _ (ab_lrn _ ab_lr0))))))))
theorem vc_X12_areSame_0 {call : Nat → List Value → ab_S → Option Value → ab_S → Prop} {ro : ab_E} {Q : Option Value → ab_S → Prop} (x1 : Int32) (x2 : Int32) (x3 : Int32) (mi : Nat → Nat → Int32) (ml : Nat → Nat → Int64)
    (h : vp_in x1 30 ∧ (vp_in (mi 69 (x1).toNatClampNeg) 30 ∧ ((((mi 52 ((mi 69 (x1).toNatClampNeg)).toNatClampNeg) = 1) → (vp_in (mi 69 (x1).toNatClampNeg) 30 ∧ (vp_in x2 30 ∧ ((((mi 52 ((mi 69 (x1).toNatClampNeg)).toNatClampNeg) = (mi 52 (x2).toNatClampNeg)) → (vp_in (mi 69 (x1).toNatClampNeg) 30 ∧ (vp_in x2 30 ∧ ((((mi 53 ((mi 69 (x1).toNatClampNeg)).toNatClampNeg) = (mi 53 (x2).toNatClampNeg)) → (Q (some (.int 1)) (ab_G mi ml))) ∧ (¬ ((mi 53 ((mi 69 (x1).toNatClampNeg)).toNatClampNeg) = (mi 53 (x2).toNatClampNeg)) → (Q (some (.int 0)) (ab_G mi ml))))))) ∧ (¬ ((mi 52 ((mi 69 (x1).toNatClampNeg)).toNatClampNeg) = (mi 52 (x2).toNatClampNeg)) → (Q (some (.int 0)) (ab_G mi ml))))))) ∧ (¬ ((mi 52 ((mi 69 (x1).toNatClampNeg)).toNatClampNeg) = 1) → (vp_in x2 30 ∧ ((((mi 52 (x2).toNatClampNeg) = 1) → (vp_in (mi 69 (x1).toNatClampNeg) 30 ∧ (vp_in x2 30 ∧ ((((mi 52 ((mi 69 (x1).toNatClampNeg)).toNatClampNeg) = (mi 52 (x2).toNatClampNeg)) → (vp_in (mi 69 (x1).toNatClampNeg) 30 ∧ (vp_in x2 30 ∧ ((((mi 53 ((mi 69 (x1).toNatClampNeg)).toNatClampNeg) = (mi 53 (x2).toNatClampNeg)) → (Q (some (.int 1)) (ab_G mi ml))) ∧ (¬ ((mi 53 ((mi 69 (x1).toNatClampNeg)).toNatClampNeg) = (mi 53 (x2).toNatClampNeg)) → (Q (some (.int 0)) (ab_G mi ml))))))) ∧ (¬ ((mi 52 ((mi 69 (x1).toNatClampNeg)).toNatClampNeg) = (mi 52 (x2).toNatClampNeg)) → (Q (some (.int 0)) (ab_G mi ml))))))) ∧ (¬ ((mi 52 (x2).toNatClampNeg) = 1) → (vp_in x1 30 ∧ (vp_in x3 30 ∧ ((((lg_cmp (ml 70 (x1).toNatClampNeg) (ml 70 (x3).toNatClampNeg)) = 0) → (vp_in x1 30 ∧ (vp_in x3 30 ∧ ((((lg_cmp (ml 71 (x1).toNatClampNeg) (ml 71 (x3).toNatClampNeg)) = 0) → (∃ (r3 : Int32) (mi1 : Nat → Nat → Int32) (ml2 : Nat → Nat → Int64), call 196 [.ref 40, .int x1, .int x3] (ab_G mi ml) (some (.int r3)) (ab_G mi1 ml2) ∧ (((r3 = 0) → (Q (some (.int 0)) (ab_G mi1 ml2))) ∧ (¬ (r3 = 0) → (∃ (r6 : Int32) (mi4 : Nat → Nat → Int32) (ml5 : Nat → Nat → Int64), call 196 [.ref 40, .int x3, .int x1] (ab_G mi1 ml2) (some (.int r6)) (ab_G mi4 ml5) ∧ (((r6 = 0) → (Q (some (.int 0)) (ab_G mi4 ml5))) ∧ (¬ (r6 = 0) → (Q (some (.int 1)) (ab_G mi4 ml5))))))))) ∧ (¬ ((lg_cmp (ml 71 (x1).toNatClampNeg) (ml 71 (x3).toNatClampNeg)) = 0) → (Q (some (.int 0)) (ab_G mi ml))))))) ∧ (¬ ((lg_cmp (ml 70 (x1).toNatClampNeg) (ml 70 (x3).toNatClampNeg)) = 0) → (Q (some (.int 0)) (ab_G mi ml))))))))))))) :
    ab_W call ro 0 0 (ab_lk2 pl_X12_areSame) Q (0, [some (.ref 40), some (.int x1), some (.int x2), some (.int x3), none], [], 0, 0, ab_G mi ml) := by
  obtain ⟨p0, p1, h⟩ := h
  refine ab_wk 11 (f' := (if (mi 52 ((mi 69 (x1).toNatClampNeg)).toNatClampNeg) = 1 then 29 else 19, [some (.ref 40), some (.int x1), some (.int x2), some (.int x3), some (.int (mi 69 (x1).toNatClampNeg))], [], 0, 0, (ab_G mi ml))) rfl ⟨trivial, trivial, trivial, p0, trivial, trivial, trivial, trivial, p1, trivial, trivial, trivial⟩ ?_
  refine ab_wi (fun c => ?_) (fun c => ?_)
  · have h := h.1 c
    obtain ⟨p0, p1, h⟩ := h
    refine ab_wk 9 (f' := (if (mi 52 ((mi 69 (x1).toNatClampNeg)).toNatClampNeg) = (mi 52 (x2).toNatClampNeg) then 45 else 65, [some (.ref 40), some (.int x1), some (.int x2), some (.int x3), some (.int (mi 69 (x1).toNatClampNeg))], [], 0, 0, (ab_G mi ml))) rfl ⟨trivial, trivial, trivial, p0, trivial, trivial, trivial, p1, trivial, trivial⟩ ?_
    refine ab_wi (fun c => ?_) (fun c => ?_)
    · have h := h.1 c
      obtain ⟨p0, p1, h⟩ := h
      refine ab_wk 9 (f' := (if (mi 53 ((mi 69 (x1).toNatClampNeg)).toNatClampNeg) = (mi 53 (x2).toNatClampNeg) then 61 else 65, [some (.ref 40), some (.int x1), some (.int x2), some (.int x3), some (.int (mi 69 (x1).toNatClampNeg))], [], 0, 0, (ab_G mi ml))) rfl ⟨trivial, trivial, trivial, p0, trivial, trivial, trivial, p1, trivial, trivial⟩ ?_
      refine ab_wi (fun c => ?_) (fun c => ?_)
      · have h := h.1 c
        exact ab_wr 3 rfl ⟨trivial, trivial, (Or.inr rfl)⟩ h
      · have h := h.2 c
        exact ab_wr 2 rfl ⟨trivial, (Or.inl rfl)⟩ h
    · have h := h.2 c
      exact ab_wr 2 rfl ⟨trivial, (Or.inl rfl)⟩ h
  · have h := h.2 c
    obtain ⟨p0, h⟩ := h
    refine ab_wk 6 (f' := (if (mi 52 (x2).toNatClampNeg) = 1 then 29 else 67, [some (.ref 40), some (.int x1), some (.int x2), some (.int x3), some (.int (mi 69 (x1).toNatClampNeg))], [], 0, 0, (ab_G mi ml))) rfl ⟨trivial, trivial, trivial, p0, trivial, trivial, trivial⟩ ?_
    refine ab_wi (fun c => ?_) (fun c => ?_)
    · have h := h.1 c
      obtain ⟨p0, p1, h⟩ := h
      refine ab_wk 9 (f' := (if (mi 52 ((mi 69 (x1).toNatClampNeg)).toNatClampNeg) = (mi 52 (x2).toNatClampNeg) then 45 else 65, [some (.ref 40), some (.int x1), some (.int x2), some (.int x3), some (.int (mi 69 (x1).toNatClampNeg))], [], 0, 0, (ab_G mi ml))) rfl ⟨trivial, trivial, trivial, p0, trivial, trivial, trivial, p1, trivial, trivial⟩ ?_
      refine ab_wi (fun c => ?_) (fun c => ?_)
      · have h := h.1 c
        obtain ⟨p0, p1, h⟩ := h
        refine ab_wk 9 (f' := (if (mi 53 ((mi 69 (x1).toNatClampNeg)).toNatClampNeg) = (mi 53 (x2).toNatClampNeg) then 61 else 65, [some (.ref 40), some (.int x1), some (.int x2), some (.int x3), some (.int (mi 69 (x1).toNatClampNeg))], [], 0, 0, (ab_G mi ml))) rfl ⟨trivial, trivial, trivial, p0, trivial, trivial, trivial, p1, trivial, trivial⟩ ?_
        refine ab_wi (fun c => ?_) (fun c => ?_)
        · have h := h.1 c
          exact ab_wr 3 rfl ⟨trivial, trivial, (Or.inr rfl)⟩ h
        · have h := h.2 c
          exact ab_wr 2 rfl ⟨trivial, (Or.inl rfl)⟩ h
      · have h := h.2 c
        exact ab_wr 2 rfl ⟨trivial, (Or.inl rfl)⟩ h
    · have h := h.2 c
      obtain ⟨p0, p1, h⟩ := h
      refine ab_wk 10 (f' := (if (lg_cmp (ml 70 (x1).toNatClampNeg) (ml 70 (x3).toNatClampNeg)) = 0 then 83 else 121, [some (.ref 40), some (.int x1), some (.int x2), some (.int x3), some (.int (mi 69 (x1).toNatClampNeg))], [], 0, 0, (ab_G mi ml))) rfl ⟨trivial, trivial, trivial, p0, trivial, trivial, trivial, p1, trivial, trivial, trivial⟩ ?_
      refine ab_wi (fun c => ?_) (fun c => ?_)
      · have h := h.1 c
        obtain ⟨p0, p1, h⟩ := h
        refine ab_wk 10 (f' := (if (lg_cmp (ml 71 (x1).toNatClampNeg) (ml 71 (x3).toNatClampNeg)) = 0 then 99 else 121, [some (.ref 40), some (.int x1), some (.int x2), some (.int x3), some (.int (mi 69 (x1).toNatClampNeg))], [], 0, 0, (ab_G mi ml))) rfl ⟨trivial, trivial, trivial, p0, trivial, trivial, trivial, p1, trivial, trivial, trivial⟩ ?_
        refine ab_wi (fun c => ?_) (fun c => ?_)
        · have h := h.1 c
          obtain ⟨r3, mi1, ml2, hc, h⟩ := h
          refine ab_wc 4 (c := 196) (as := [.ref 40, .int x1, .int x3]) (pc := 105) (ll := [some (.ref 40), some (.int x1), some (.int x2), some (.int x3), some (.int (mi 69 (x1).toNatClampNeg))]) (st := []) (c1 := 0) (s1 := 0) (g := (ab_G mi ml)) rfl ⟨trivial, trivial, trivial, trivial⟩ hc ?_
          refine ab_wk 1 (f' := (if r3 = 0 then 121 else 108, [some (.ref 40), some (.int x1), some (.int x2), some (.int x3), some (.int (mi 69 (x1).toNatClampNeg))], [], 0, 0, (ab_G mi1 ml2))) rfl ⟨trivial, trivial⟩ ?_
          refine ab_wi (fun c => ?_) (fun c => ?_)
          · have h := h.1 c
            exact ab_wr 2 rfl ⟨trivial, (Or.inl rfl)⟩ h
          · have h := h.2 c
            obtain ⟨r6, mi4, ml5, hc, h⟩ := h
            refine ab_wc 4 (c := 196) (as := [.ref 40, .int x3, .int x1]) (pc := 114) (ll := [some (.ref 40), some (.int x1), some (.int x2), some (.int x3), some (.int (mi 69 (x1).toNatClampNeg))]) (st := []) (c1 := 0) (s1 := 0) (g := (ab_G mi1 ml2)) rfl ⟨trivial, trivial, trivial, trivial⟩ hc ?_
            refine ab_wk 1 (f' := (if r6 = 0 then 121 else 117, [some (.ref 40), some (.int x1), some (.int x2), some (.int x3), some (.int (mi 69 (x1).toNatClampNeg))], [], 0, 0, (ab_G mi4 ml5))) rfl ⟨trivial, trivial⟩ ?_
            refine ab_wi (fun c => ?_) (fun c => ?_)
            · have h := h.1 c
              exact ab_wr 2 rfl ⟨trivial, (Or.inl rfl)⟩ h
            · have h := h.2 c
              exact ab_wr 3 rfl ⟨trivial, trivial, (Or.inr rfl)⟩ h
        · have h := h.2 c
          exact ab_wr 2 rfl ⟨trivial, (Or.inl rfl)⟩ h
      · have h := h.2 c
        exact ab_wr 2 rfl ⟨trivial, (Or.inl rfl)⟩ h
theorem vc_X12_findGroups_0 {call : Nat → List Value → ab_S → Option Value → ab_S → Prop} {ro : ab_E} {Q : Option Value → ab_S → Prop}  (mi : Nat → Nat → Int32) (ml : Nat → Nat → Int64)
    (h : ab_W call ro 0 0 (ab_lk2 pl_X12_findGroups) Q (7, [some (.ref 40), some (.int 0), none], [], 0, 0, (ab_G (ab_ui mi 40 45 0) ml))) :
    ab_W call ro 0 0 (ab_lk2 pl_X12_findGroups) Q (0, [some (.ref 40), none, none], [], 0, 0, ab_G mi ml) := by
  exact ab_wk 5 (f' := (7, [some (.ref 40), some (.int 0), none], [], 0, 0, (ab_G (ab_ui mi 40 45 0) ml))) rfl ⟨trivial, trivial, trivial, trivial, trivial, trivial⟩ h
theorem vc_X12_findGroups_7 {call : Nat → List Value → ab_S → Option Value → ab_S → Prop} {ro : ab_E} {Q : Option Value → ab_S → Prop} (y1 : Int32) (mi : Nat → Nat → Int32) (ml : Nat → Nat → Int64)
    (h : ((y1 < (mi 40 20)) → (vp_in y1 30 ∧ (∃ (r3 : Int32) (mi1 : Nat → Nat → Int32) (ml2 : Nat → Nat → Int64), call 183 [.ref 40, .int y1] (ab_G (ab_ui mi 68 (y1).toNatClampNeg (-1)) ml) (some (.int r3)) (ab_G mi1 ml2) ∧ (((r3 = 0) → (ab_W call ro 0 0 (ab_lk2 pl_X12_findGroups) Q (7, [some (.ref 40), some (.int (y1 + 1)), none], [], 0, 0, (ab_G mi1 ml2)))) ∧ (¬ (r3 = 0) → (∃ (mi4 : Nat → Nat → Int32) (ml5 : Nat → Nat → Int64), call 195 [.ref 40, .int y1, .int (mi1 40 45)] (ab_G mi1 ml2) none (ab_G mi4 ml5) ∧ (ab_W call ro 0 0 (ab_lk2 pl_X12_findGroups) Q (46, [some (.ref 40), some (.int y1), some (.int ((mi4 40 45) - 1))], [], 0, 0, (ab_G mi4 ml5))))))))) ∧ (¬ (y1 < (mi 40 20)) → (Q none (ab_G mi ml)))) :
    ab_W call ro 0 0 (ab_lk2 pl_X12_findGroups) Q (7, [some (.ref 40), some (.int y1), none], [], 0, 0, ab_G mi ml) := by
  refine ab_wk 4 (f' := (if y1 < (mi 40 20) then 15 else 130, [some (.ref 40), some (.int y1), none], [], 0, 0, (ab_G mi ml))) rfl ⟨trivial, trivial, trivial, trivial, trivial⟩ ?_
  refine ab_wi (fun c => ?_) (fun c => ?_)
  · have h := h.1 c
    obtain ⟨p0, h⟩ := h
    obtain ⟨r3, mi1, ml2, hc, h⟩ := h
    refine ab_wc 8 (c := 183) (as := [.ref 40, .int y1]) (pc := 27) (ll := [some (.ref 40), some (.int y1), none]) (st := []) (c1 := 0) (s1 := 0) (g := (ab_G (ab_ui mi 68 (y1).toNatClampNeg (-1)) ml)) rfl ⟨trivial, trivial, trivial, trivial, p0, trivial, trivial, trivial⟩ hc ?_
    refine ab_wk 1 (f' := (if r3 = 0 then 124 else 30, [some (.ref 40), some (.int y1), none], [], 0, 0, (ab_G mi1 ml2))) rfl ⟨trivial, trivial⟩ ?_
    refine ab_wi (fun c => ?_) (fun c => ?_)
    · have h := h.1 c
      exact ab_wk 2 (f' := (7, [some (.ref 40), some (.int (y1 + 1)), none], [], 0, 0, (ab_G mi1 ml2))) rfl ⟨trivial, trivial, trivial⟩ h
    · have h := h.2 c
      obtain ⟨mi4, ml5, hc, h⟩ := h
      refine ab_wc 5 (c := 195) (as := [.ref 40, .int y1, .int (mi1 40 45)]) (pc := 39) (ll := [some (.ref 40), some (.int y1), none]) (st := []) (c1 := 0) (s1 := 0) (g := (ab_G mi1 ml2)) rfl ⟨trivial, trivial, trivial, trivial, trivial⟩ hc ?_
      exact ab_wk 5 (f' := (46, [some (.ref 40), some (.int y1), some (.int ((mi4 40 45) - 1))], [], 0, 0, (ab_G mi4 ml5))) rfl ⟨trivial, trivial, trivial, trivial, trivial, trivial⟩ h
  · have h := h.2 c
    exact ab_wr 1 rfl trivial h
theorem vc_X12_findGroups_46 {call : Nat → List Value → ab_S → Option Value → ab_S → Prop} {ro : ab_E} {Q : Option Value → ab_S → Prop} (y1 : Int32) (y2 : Int32) (mi : Nat → Nat → Int32) (ml : Nat → Nat → Int64)
    (h : ((y2 < 0) → (vp_in y1 30 ∧ ((((mi 68 (y1).toNatClampNeg) < 0) → (vp_in y1 30 ∧ (vp_in (mi 40 45) 30 ∧ (ab_W call ro 0 0 (ab_lk2 pl_X12_findGroups) Q (7, [some (.ref 40), some (.int (y1 + 1)), none], [], 0, 0, (ab_G (ab_ui (ab_ui (ab_ui mi 68 (y1).toNatClampNeg (mi 40 45)) 69 ((mi 40 45)).toNatClampNeg y1) 40 45 ((mi 40 45) + 1)) ml)))))) ∧ (¬ ((mi 68 (y1).toNatClampNeg) < 0) → (ab_W call ro 0 0 (ab_lk2 pl_X12_findGroups) Q (7, [some (.ref 40), some (.int (y1 + 1)), none], [], 0, 0, (ab_G mi ml))))))) ∧ (¬ (y2 < 0) → (∃ (r8 : Int32) (mi6 : Nat → Nat → Int32) (ml7 : Nat → Nat → Int64), call 197 [.ref 40, .int y2, .int y1, .int (mi 40 45)] (ab_G mi ml) (some (.int r8)) (ab_G mi6 ml7) ∧ (((r8 = 0) → (vp_in y1 30 ∧ (vp_in y1 30 ∧ (ab_W call ro 0 0 (ab_lk2 pl_X12_findGroups) Q (46, [some (.ref 40), some (.int y1), some (.int (y2 + (-1)))], [], 0, 0, (ab_G (ab_ui mi6 68 (y1).toNatClampNeg (mi6 68 (y1).toNatClampNeg)) ml7)))))) ∧ (¬ (r8 = 0) → (vp_in y1 30 ∧ (ab_W call ro 0 0 (ab_lk2 pl_X12_findGroups) Q (46, [some (.ref 40), some (.int y1), some (.int (y2 + (-1)))], [], 0, 0, (ab_G (ab_ui mi6 68 (y1).toNatClampNeg y2) ml7))))))))) :
    ab_W call ro 0 0 (ab_lk2 pl_X12_findGroups) Q (46, [some (.ref 40), some (.int y1), some (.int y2)], [], 0, 0, ab_G mi ml) := by
  refine ab_wk 2 (f' := (if y2 < 0 then 85 else 50, [some (.ref 40), some (.int y1), some (.int y2)], [], 0, 0, (ab_G mi ml))) rfl ⟨trivial, trivial, trivial⟩ ?_
  refine ab_wi (fun c => ?_) (fun c => ?_)
  · have h := h.1 c
    obtain ⟨p0, h⟩ := h
    refine ab_wk 5 (f' := (if (mi 68 (y1).toNatClampNeg) < 0 then 94 else 124, [some (.ref 40), some (.int y1), some (.int y2)], [], 0, 0, (ab_G mi ml))) rfl ⟨trivial, trivial, trivial, p0, trivial, trivial⟩ ?_
    refine ab_wi (fun c => ?_) (fun c => ?_)
    · have h := h.1 c
      obtain ⟨p0, p1, h⟩ := h
      exact ab_wk 20 (f' := (7, [some (.ref 40), some (.int (y1 + 1)), some (.int y2)], [], 0, 0, (ab_G (ab_ui (ab_ui (ab_ui mi 68 (y1).toNatClampNeg (mi 40 45)) 69 ((mi 40 45)).toNatClampNeg y1) 40 45 ((mi 40 45) + 1)) ml))) rfl ⟨trivial, trivial, trivial, trivial, trivial, p0, trivial, trivial, trivial, trivial, trivial, p1, trivial, trivial, trivial, trivial, trivial, trivial, trivial, trivial, trivial⟩ (ab_drop h (ab_lrc _ (ab_lrc _ (ab_lrn _ ab_lr0))))
    · have h := h.2 c
      exact ab_wk 2 (f' := (7, [some (.ref 40), some (.int (y1 + 1)), some (.int y2)], [], 0, 0, (ab_G mi ml))) rfl ⟨trivial, trivial, trivial⟩ (ab_drop h (ab_lrc _ (ab_lrc _ (ab_lrn _ ab_lr0))))
  · have h := h.2 c
    obtain ⟨r8, mi6, ml7, hc, h⟩ := h
    refine ab_wc 9 (c := 197) (as := [.ref 40, .int y2, .int y1, .int (mi 40 45)]) (pc := 65) (ll := [some (.ref 40), some (.int y1), some (.int y2)]) (st := [.int y1, .ref 68]) (c1 := 0) (s1 := 0) (g := (ab_G mi ml)) rfl ⟨trivial, trivial, trivial, trivial, trivial, trivial, trivial, trivial, trivial⟩ hc ?_
    refine ab_wk 1 (f' := (if r8 = 0 then 72 else 68, [some (.ref 40), some (.int y1), some (.int y2)], [.int y1, .ref 68], 0, 0, (ab_G mi6 ml7))) rfl ⟨trivial, trivial⟩ ?_
    refine ab_wi (fun c => ?_) (fun c => ?_)
    · have h := h.1 c
      obtain ⟨p0, p1, h⟩ := h
      exact ab_wk 7 (f' := (46, [some (.ref 40), some (.int y1), some (.int (y2 + (-1)))], [], 0, 0, (ab_G (ab_ui mi6 68 (y1).toNatClampNeg (mi6 68 (y1).toNatClampNeg)) ml7))) rfl ⟨trivial, trivial, trivial, p0, p1, trivial, trivial, trivial⟩ h
    · have h := h.2 c
      obtain ⟨p0, h⟩ := h
      exact ab_wk 5 (f' := (46, [some (.ref 40), some (.int y1), some (.int (y2 + (-1)))], [], 0, 0, (ab_G (ab_ui mi6 68 (y1).toNatClampNeg y2) ml7))) rfl ⟨trivial, trivial, p0, trivial, trivial, trivial⟩ h
theorem vc_X12_look_0 {call : Nat → List Value → ab_S → Option Value → ab_S → Prop} {ro : ab_E} {Q : Option Value → ab_S → Prop} (x1 : Int32) (x2 : Int32) (mi : Nat → Nat → Int32) (ml : Nat → Nat → Int64)
    (h : ∃ (r3 : Int32) (mi1 : Nat → Nat → Int32) (ml2 : Nat → Nat → Int64), call 182 [.ref 40, .int x1] (ab_G (ab_ui mi 40 0 0) ml) (some (.int r3)) (ab_G mi1 ml2) ∧ (((r3 = 0) → (Q (some (.int (-1))) (ab_G mi1 ml2))) ∧ (¬ (r3 = 0) → (∃ (r6 : Int32) (mi4 : Nat → Nat → Int32) (ml5 : Nat → Nat → Int64), call 178 [.int x2, .int 0, .int 3] (ab_G mi1 ml2) (some (.int r6)) (ab_G mi4 ml5) ∧ (((r6 = 0) → (Q (some (.int (-1))) (ab_G mi4 ml5))) ∧ (¬ (r6 = 0) → (∃ (mi7 : Nat → Nat → Int32) (ml8 : Nat → Nat → Int64), call 198 [.ref 40] (ab_G mi4 ml5) none (ab_G mi7 ml8) ∧ (((x2 = 0) → (vp_in x1 30 ∧ (Q (some (.int (mi7 68 (x1).toNatClampNeg))) (ab_G mi7 ml8)))) ∧ (¬ (x2 = 0) → (((x2 = 1) → (vp_in x1 30 ∧ (Q (some (.int (mi7 52 (x1).toNatClampNeg))) (ab_G mi7 ml8)))) ∧ (¬ (x2 = 1) → (((x2 = 2) → (vp_in x1 30 ∧ (Q (some (.int (mi7 53 (x1).toNatClampNeg))) (ab_G mi7 ml8)))) ∧ (¬ (x2 = 2) → (vp_in x1 30 ∧ (Q (some (.int (mi7 57 (x1).toNatClampNeg))) (ab_G mi7 ml8)))))))))))))))) :
    ab_W call ro 0 0 (ab_lk2 pl_X12_look) Q (0, [some (.ref 40), some (.int x1), some (.int x2)], [], 0, 0, ab_G mi ml) := by
  obtain ⟨r3, mi1, ml2, hc, h⟩ := h
  refine ab_wc 6 (c := 182) (as := [.ref 40, .int x1]) (pc := 10) (ll := [some (.ref 40), some (.int x1), some (.int x2)]) (st := []) (c1 := 0) (s1 := 0) (g := (ab_G (ab_ui mi 40 0 0) ml)) rfl ⟨trivial, trivial, trivial, trivial, trivial, trivial⟩ hc ?_
  refine ab_wk 1 (f' := (if r3 = 0 then 22 else 13, [some (.ref 40), some (.int x1), some (.int x2)], [], 0, 0, (ab_G mi1 ml2))) rfl ⟨trivial, trivial⟩ ?_
  refine ab_wi (fun c => ?_) (fun c => ?_)
  · have h := h.1 c
    exact ab_wr 2 rfl ⟨trivial, trivial⟩ h
  · have h := h.2 c
    obtain ⟨r6, mi4, ml5, hc, h⟩ := h
    refine ab_wc 4 (c := 178) (as := [.int x2, .int 0, .int 3]) (pc := 19) (ll := [some (.ref 40), some (.int x1), some (.int x2)]) (st := []) (c1 := 0) (s1 := 0) (g := (ab_G mi1 ml2)) rfl ⟨trivial, trivial, trivial, trivial⟩ hc ?_
    refine ab_wk 1 (f' := (if r6 = 0 then 22 else 24, [some (.ref 40), some (.int x1), some (.int x2)], [], 0, 0, (ab_G mi4 ml5))) rfl ⟨trivial, trivial⟩ ?_
    refine ab_wi (fun c => ?_) (fun c => ?_)
    · have h := h.1 c
      exact ab_wr 2 rfl ⟨trivial, trivial⟩ h
    · have h := h.2 c
      obtain ⟨mi7, ml8, hc, h⟩ := h
      refine ab_wc 2 (c := 198) (as := [.ref 40]) (pc := 28) (ll := [some (.ref 40), some (.int x1), some (.int x2)]) (st := []) (c1 := 0) (s1 := 0) (g := (ab_G mi4 ml5)) rfl ⟨trivial, trivial⟩ hc ?_
      refine ab_wk 2 (f' := (if x2 = 0 then 32 else 41, [some (.ref 40), some (.int x1), some (.int x2)], [], 0, 0, (ab_G mi7 ml8))) rfl ⟨trivial, trivial, trivial⟩ ?_
      refine ab_wi (fun c => ?_) (fun c => ?_)
      · have h := h.1 c
        obtain ⟨p0, h⟩ := h
        exact ab_wr 6 rfl ⟨trivial, trivial, trivial, p0, trivial, trivial⟩ h
      · have h := h.2 c
        refine ab_wk 3 (f' := (if x2 = 1 then 46 else 55, [some (.ref 40), some (.int x1), some (.int x2)], [], 0, 0, (ab_G mi7 ml8))) rfl ⟨trivial, trivial, trivial, trivial⟩ ?_
        refine ab_wi (fun c => ?_) (fun c => ?_)
        · have h := h.1 c
          obtain ⟨p0, h⟩ := h
          exact ab_wr 6 rfl ⟨trivial, trivial, trivial, p0, trivial, trivial⟩ h
        · have h := h.2 c
          refine ab_wk 3 (f' := (if x2 = 2 then 60 else 69, [some (.ref 40), some (.int x1), some (.int x2)], [], 0, 0, (ab_G mi7 ml8))) rfl ⟨trivial, trivial, trivial, trivial⟩ ?_
          refine ab_wi (fun c => ?_) (fun c => ?_)
          · have h := h.1 c
            obtain ⟨p0, h⟩ := h
            exact ab_wr 6 rfl ⟨trivial, trivial, trivial, p0, trivial, trivial⟩ h
          · have h := h.2 c
            obtain ⟨p0, h⟩ := h
            exact ab_wr 5 rfl ⟨trivial, trivial, trivial, p0, trivial⟩ h
theorem vc_X12_isGroup_0 {call : Nat → List Value → ab_S → Option Value → ab_S → Prop} {ro : ab_E} {Q : Option Value → ab_S → Prop} (x1 : Int32) (mi : Nat → Nat → Int32) (ml : Nat → Nat → Int64)
    (h : ((x1 < 0) → (Q (some (.int 0)) (ab_G mi ml))) ∧ (¬ (x1 < 0) → (((x1 < (mi 40 45)) → (Q (some (.int 1)) (ab_G mi ml))) ∧ (¬ (x1 < (mi 40 45)) → (Q (some (.int 0)) (ab_G mi ml)))))) :
    ab_W call ro 0 0 (ab_lk2 pl_X12_isGroup) Q (0, [some (.ref 40), some (.int x1)], [], 0, 0, ab_G mi ml) := by
  refine ab_wk 2 (f' := (if x1 < 0 then 16 else 4, [some (.ref 40), some (.int x1)], [], 0, 0, (ab_G mi ml))) rfl ⟨trivial, trivial, trivial⟩ ?_
  refine ab_wi (fun c => ?_) (fun c => ?_)
  · have h := h.1 c
    exact ab_wr 2 rfl ⟨trivial, (Or.inl rfl)⟩ h
  · have h := h.2 c
    refine ab_wk 4 (f' := (if x1 < (mi 40 45) then 12 else 16, [some (.ref 40), some (.int x1)], [], 0, 0, (ab_G mi ml))) rfl ⟨trivial, trivial, trivial, trivial, trivial⟩ ?_
    refine ab_wi (fun c => ?_) (fun c => ?_)
    · have h := h.1 c
      exact ab_wr 3 rfl ⟨trivial, trivial, (Or.inr rfl)⟩ h
    · have h := h.2 c
      exact ab_wr 2 rfl ⟨trivial, (Or.inl rfl)⟩ h
theorem vc_X12_handsOf_0 {call : Nat → List Value → ab_S → Option Value → ab_S → Prop} {ro : ab_E} {Q : Option Value → ab_S → Prop} (x1 : Int32) (mi : Nat → Nat → Int32) (ml : Nat → Nat → Int64)
    (h : ab_W call ro 0 0 (ab_lk2 pl_X12_handsOf) Q (4, [some (.ref 40), some (.int x1), some (.int 0), some (.int 0), none, none], [], 0, 0, (ab_G mi ml))) :
    ab_W call ro 0 0 (ab_lk2 pl_X12_handsOf) Q (0, [some (.ref 40), some (.int x1), none, none, none, none], [], 0, 0, ab_G mi ml) := by
  exact ab_wk 4 (f' := (4, [some (.ref 40), some (.int x1), some (.int 0), some (.int 0), none, none], [], 0, 0, (ab_G mi ml))) rfl ⟨trivial, trivial, trivial, trivial, trivial⟩ h
theorem vc_X12_handsOf_4 {call : Nat → List Value → ab_S → Option Value → ab_S → Prop} {ro : ab_E} {Q : Option Value → ab_S → Prop} (y1 : Int32) (y2 : Int32) (y3 : Int32) (mi : Nat → Nat → Int32) (ml : Nat → Nat → Int64)
    (h : ((y3 < 100) → (ab_W call ro 0 0 (ab_lk2 pl_X12_handsOf) Q (16, [some (.ref 40), some (.int y1), some (.int y2), some (.int y3), some (.int 0), some (.int 0)], [], 0, 0, (ab_G mi ml)))) ∧ (¬ (y3 < 100) → (Q (some (.int y2)) (ab_G mi ml)))) :
    ab_W call ro 0 0 (ab_lk2 pl_X12_handsOf) Q (4, [some (.ref 40), some (.int y1), some (.int y2), some (.int y3), none, none], [], 0, 0, ab_G mi ml) := by
  refine ab_wk 3 (f' := (if y3 < 100 then 10 else 84, [some (.ref 40), some (.int y1), some (.int y2), some (.int y3), none, none], [], 0, 0, (ab_G mi ml))) rfl ⟨trivial, trivial, trivial, trivial⟩ ?_
  refine ab_wi (fun c => ?_) (fun c => ?_)
  · have h := h.1 c
    exact ab_wk 4 (f' := (16, [some (.ref 40), some (.int y1), some (.int y2), some (.int y3), some (.int 0), some (.int 0)], [], 0, 0, (ab_G mi ml))) rfl ⟨trivial, trivial, trivial, trivial, trivial⟩ h
  · have h := h.2 c
    exact ab_wr 2 rfl ⟨trivial, trivial⟩ h
theorem vc_X12_handsOf_16 {call : Nat → List Value → ab_S → Option Value → ab_S → Prop} {ro : ab_E} {Q : Option Value → ab_S → Prop} (y1 : Int32) (y2 : Int32) (y3 : Int32) (y4 : Int32) (y5 : Int32) (mi : Nat → Nat → Int32) (ml : Nat → Nat → Int64)
    (h : ((y5 < (mi 40 20)) → (((y4 = 0) → (vp_in y5 30 ∧ ((((mi 68 (y5).toNatClampNeg) = y1) → (vp_in y5 30 ∧ ((((mi 57 (y5).toNatClampNeg) = y3) → (ab_W call ro 0 0 (ab_lk2 pl_X12_handsOf) Q (16, [some (.ref 40), some (.int y1), some (.int y2), some (.int y3), some (.int 1), some (.int (y5 + 1))], [], 0, 0, (ab_G mi ml)))) ∧ (¬ ((mi 57 (y5).toNatClampNeg) = y3) → (ab_W call ro 0 0 (ab_lk2 pl_X12_handsOf) Q (16, [some (.ref 40), some (.int y1), some (.int y2), some (.int y3), some (.int 0), some (.int (y5 + 1))], [], 0, 0, (ab_G mi ml))))))) ∧ (¬ ((mi 68 (y5).toNatClampNeg) = y1) → (ab_W call ro 0 0 (ab_lk2 pl_X12_handsOf) Q (16, [some (.ref 40), some (.int y1), some (.int y2), some (.int y3), some (.int 0), some (.int (y5 + 1))], [], 0, 0, (ab_G mi ml))))))) ∧ (¬ (y4 = 0) → (ab_W call ro 0 0 (ab_lk2 pl_X12_handsOf) Q (16, [some (.ref 40), some (.int y1), some (.int y2), some (.int y3), some (.int 1), some (.int (y5 + 1))], [], 0, 0, (ab_G mi ml)))))) ∧ (¬ (y5 < (mi 40 20)) → (((y4 = 0) → (ab_W call ro 0 0 (ab_lk2 pl_X12_handsOf) Q (4, [some (.ref 40), some (.int y1), some (.int (y2 + 0)), some (.int (y3 + 1)), none, none], [], 0, 0, (ab_G mi ml)))) ∧ (¬ (y4 = 0) → (ab_W call ro 0 0 (ab_lk2 pl_X12_handsOf) Q (4, [some (.ref 40), some (.int y1), some (.int (y2 + 1)), some (.int (y3 + 1)), none, none], [], 0, 0, (ab_G mi ml))))))) :
    ab_W call ro 0 0 (ab_lk2 pl_X12_handsOf) Q (16, [some (.ref 40), some (.int y1), some (.int y2), some (.int y3), some (.int y4), some (.int y5)], [], 0, 0, ab_G mi ml) := by
  refine ab_wk 4 (f' := (if y5 < (mi 40 20) then 25 else 65, [some (.ref 40), some (.int y1), some (.int y2), some (.int y3), some (.int y4), some (.int y5)], [], 0, 0, (ab_G mi ml))) rfl ⟨trivial, trivial, trivial, trivial, trivial⟩ ?_
  refine ab_wi (fun c => ?_) (fun c => ?_)
  · have h := h.1 c
    refine ab_wk 2 (f' := (if y4 = 0 then 30 else 52, [some (.ref 40), some (.int y1), some (.int y2), some (.int y3), some (.int y4), some (.int y5)], [], 0, 0, (ab_G mi ml))) rfl ⟨trivial, trivial, trivial⟩ ?_
    refine ab_wi (fun c => ?_) (fun c => ?_)
    · have h := h.1 c
      obtain ⟨p0, h⟩ := h
      refine ab_wk 6 (f' := (if (mi 68 (y5).toNatClampNeg) = y1 then 41 else 56, [some (.ref 40), some (.int y1), some (.int y2), some (.int y3), some (.int y4), some (.int y5)], [], 0, 0, (ab_G mi ml))) rfl ⟨trivial, trivial, trivial, p0, trivial, trivial, trivial⟩ ?_
      refine ab_wi (fun c => ?_) (fun c => ?_)
      · have h := h.1 c
        obtain ⟨p0, h⟩ := h
        refine ab_wk 6 (f' := (if (mi 57 (y5).toNatClampNeg) = y3 then 52 else 56, [some (.ref 40), some (.int y1), some (.int y2), some (.int y3), some (.int y4), some (.int y5)], [], 0, 0, (ab_G mi ml))) rfl ⟨trivial, trivial, trivial, p0, trivial, trivial, trivial⟩ ?_
        refine ab_wi (fun c => ?_) (fun c => ?_)
        · have h := h.1 c
          exact ab_wk 5 (f' := (16, [some (.ref 40), some (.int y1), some (.int y2), some (.int y3), some (.int 1), some (.int (y5 + 1))], [], 0, 0, (ab_G mi ml))) rfl ⟨trivial, trivial, trivial, trivial, trivial, trivial⟩ h
        · have h := h.2 c
          exact ab_wk 4 (f' := (16, [some (.ref 40), some (.int y1), some (.int y2), some (.int y3), some (.int 0), some (.int (y5 + 1))], [], 0, 0, (ab_G mi ml))) rfl ⟨trivial, trivial, trivial, trivial, trivial⟩ h
      · have h := h.2 c
        exact ab_wk 4 (f' := (16, [some (.ref 40), some (.int y1), some (.int y2), some (.int y3), some (.int 0), some (.int (y5 + 1))], [], 0, 0, (ab_G mi ml))) rfl ⟨trivial, trivial, trivial, trivial, trivial⟩ h
    · have h := h.2 c
      exact ab_wk 5 (f' := (16, [some (.ref 40), some (.int y1), some (.int y2), some (.int y3), some (.int 1), some (.int (y5 + 1))], [], 0, 0, (ab_G mi ml))) rfl ⟨trivial, trivial, trivial, trivial, trivial, trivial⟩ h
  · have h := h.2 c
    refine ab_wk 3 (f' := (if y4 = 0 then 75 else 71, [some (.ref 40), some (.int y1), some (.int y2), some (.int y3), some (.int y4), some (.int y5)], [.int y2], 0, 0, (ab_G mi ml))) rfl ⟨trivial, trivial, trivial, trivial⟩ ?_
    refine ab_wi (fun c => ?_) (fun c => ?_)
    · have h := h.1 c
      exact ab_wk 5 (f' := (4, [some (.ref 40), some (.int y1), some (.int (y2 + 0)), some (.int (y3 + 1)), some (.int y4), some (.int y5)], [], 0, 0, (ab_G mi ml))) rfl ⟨trivial, trivial, trivial, trivial, trivial, trivial⟩ (ab_drop h (ab_lrc _ (ab_lrc _ (ab_lrc _ (ab_lrc _ (ab_lrn _ (ab_lrn _ ab_lr0)))))))
    · have h := h.2 c
      exact ab_wk 6 (f' := (4, [some (.ref 40), some (.int y1), some (.int (y2 + 1)), some (.int (y3 + 1)), some (.int y4), some (.int y5)], [], 0, 0, (ab_G mi ml))) rfl ⟨trivial, trivial, trivial, trivial, trivial, trivial, trivial⟩ (ab_drop h (ab_lrc _ (ab_lrc _ (ab_lrc _ (ab_lrc _ (ab_lrn _ (ab_lrn _ ab_lr0)))))))
theorem vc_X12_housesOf_0 {call : Nat → List Value → ab_S → Option Value → ab_S → Prop} {ro : ab_E} {Q : Option Value → ab_S → Prop} (x1 : Int32) (mi : Nat → Nat → Int32) (ml : Nat → Nat → Int64)
    (h : ab_W call ro 0 0 (ab_lk2 pl_X12_housesOf) Q (4, [some (.ref 40), some (.int x1), some (.int 0), some (.int 0)], [], 0, 0, (ab_G mi ml))) :
    ab_W call ro 0 0 (ab_lk2 pl_X12_housesOf) Q (0, [some (.ref 40), some (.int x1), none, none], [], 0, 0, ab_G mi ml) := by
  exact ab_wk 4 (f' := (4, [some (.ref 40), some (.int x1), some (.int 0), some (.int 0)], [], 0, 0, (ab_G mi ml))) rfl ⟨trivial, trivial, trivial, trivial, trivial⟩ h
theorem vc_X12_housesOf_4 {call : Nat → List Value → ab_S → Option Value → ab_S → Prop} {ro : ab_E} {Q : Option Value → ab_S → Prop} (y1 : Int32) (y2 : Int32) (y3 : Int32) (mi : Nat → Nat → Int32) (ml : Nat → Nat → Int64)
    (h : ((y3 < (mi 40 20)) → (vp_in y3 30 ∧ ((((mi 68 (y3).toNatClampNeg) = y1) → (vp_in y3 30 ∧ (vp_in (mi 57 (y3).toNatClampNeg) 100 ∧ (ab_W call ro 0 0 (ab_lk2 pl_X12_housesOf) Q (4, [some (.ref 40), some (.int y1), some (.int (y2 ||| ((1 : Int32) <<< ((mi 60 ((mi 57 (y3).toNatClampNeg)).toNatClampNeg) &&& 31)))), some (.int (y3 + 1))], [], 0, 0, (ab_G mi ml)))))) ∧ (¬ ((mi 68 (y3).toNatClampNeg) = y1) → (ab_W call ro 0 0 (ab_lk2 pl_X12_housesOf) Q (4, [some (.ref 40), some (.int y1), some (.int (y2 ||| 0)), some (.int (y3 + 1))], [], 0, 0, (ab_G mi ml))))))) ∧ (¬ (y3 < (mi 40 20)) → (∃ (r3 : Int32) (mi1 : Nat → Nat → Int32) (ml2 : Nat → Nat → Int64), call 161 [.int y2] (ab_G mi ml) (some (.int r3)) (ab_G mi1 ml2) ∧ (Q (some (.int r3)) (ab_G mi1 ml2))))) :
    ab_W call ro 0 0 (ab_lk2 pl_X12_housesOf) Q (4, [some (.ref 40), some (.int y1), some (.int y2), some (.int y3)], [], 0, 0, ab_G mi ml) := by
  refine ab_wk 4 (f' := (if y3 < (mi 40 20) then 12 else 48, [some (.ref 40), some (.int y1), some (.int y2), some (.int y3)], [], 0, 0, (ab_G mi ml))) rfl ⟨trivial, trivial, trivial, trivial, trivial⟩ ?_
  refine ab_wi (fun c => ?_) (fun c => ?_)
  · have h := h.1 c
    obtain ⟨p0, h⟩ := h
    refine ab_wk 7 (f' := (if (mi 68 (y3).toNatClampNeg) = y1 then 23 else 39, [some (.ref 40), some (.int y1), some (.int y2), some (.int y3)], [.int y2], 0, 0, (ab_G mi ml))) rfl ⟨trivial, trivial, trivial, trivial, p0, trivial, trivial, trivial⟩ ?_
    refine ab_wi (fun c => ?_) (fun c => ?_)
    · have h := h.1 c
      obtain ⟨p0, p1, h⟩ := h
      exact ab_wk 14 (f' := (4, [some (.ref 40), some (.int y1), some (.int (y2 ||| ((1 : Int32) <<< ((mi 60 ((mi 57 (y3).toNatClampNeg)).toNatClampNeg) &&& 31)))), some (.int (y3 + 1))], [], 0, 0, (ab_G mi ml))) rfl ⟨trivial, trivial, trivial, trivial, trivial, trivial, p0, p1, trivial, trivial, trivial, trivial, trivial, trivial, trivial⟩ h
    · have h := h.2 c
      exact ab_wk 5 (f' := (4, [some (.ref 40), some (.int y1), some (.int (y2 ||| 0)), some (.int (y3 + 1))], [], 0, 0, (ab_G mi ml))) rfl ⟨trivial, trivial, trivial, trivial, trivial, trivial⟩ h
  · have h := h.2 c
    obtain ⟨r3, mi1, ml2, hc, h⟩ := h
    refine ab_wc 2 (c := 161) (as := [.int y2]) (pc := 52) (ll := [some (.ref 40), some (.int y1), some (.int y2), some (.int y3)]) (st := []) (c1 := 0) (s1 := 0) (g := (ab_G mi ml)) rfl ⟨trivial, trivial⟩ hc ?_
    exact ab_wr 1 rfl trivial h
