theorem vc_X9_weigh_0 {call : Nat → List Value → ab_S → Option Value → ab_S → Prop} {ro : ab_E} {Q : Option Value → ab_S → Prop} (x1 : Int32) (x2 : Int32) (x3 : Int32) (mi : Nat → Nat → Int32) (ml : Nat → Nat → Int64)
    (h : (((x2 = 0) → (∃ (r3 : Int32) (mi1 : Nat → Nat → Int32) (ml2 : Nat → Nat → Int64), call 91 [.ref 33, .int x1] (ab_G mi ml) (some (.int r3)) (ab_G mi1 ml2) ∧ (Q (some (.int r3)) (ab_G mi1 ml2)))) ∧ (¬ (x2 = 0) → (((x2 = 1) → (∃ (r6 : Int32) (mi4 : Nat → Nat → Int32) (ml5 : Nat → Nat → Int64), call 92 [.ref 33, .int x1] (ab_G mi ml) (some (.int r6)) (ab_G mi4 ml5) ∧ (Q (some (.int r6)) (ab_G mi4 ml5)))) ∧ (¬ (x2 = 1) → (((x2 = 2) → (∃ (r9 : Int32) (mi7 : Nat → Nat → Int32) (ml8 : Nat → Nat → Int64), call 93 [.ref 33, .int x1] (ab_G mi ml) (some (.int r9)) (ab_G mi7 ml8) ∧ (Q (some (.int r9)) (ab_G mi7 ml8)))) ∧ (¬ (x2 = 2) → (∃ (r12 : Int32) (mi10 : Nat → Nat → Int32) (ml11 : Nat → Nat → Int64), call 94 [.ref 33, .int x1, .int x3] (ab_G mi ml) (some (.int r12)) (ab_G mi10 ml11) ∧ (Q (some (.int r12)) (ab_G mi10 ml11)))))))))) :
    ab_W call ro 0 0 (ab_lk2 pl_X9_weigh) Q (0, [some (.ref 33), some (.int x1), some (.int x2), some (.int x3)], [], 0, 0, ab_G mi ml) := by
  refine ab_wk 2 (f' := (ab_sw x2 [(0, 28), (1, 34), (2, 40)] 46, [some (.ref 33), some (.int x1), some (.int x2), some (.int x3)], [], 0, 0, (ab_G mi ml))) rfl ⟨trivial, trivial, trivial⟩ ?_
  refine ab_wi (fun c => ?_) (fun c => ?_)
  · have h := h.1 c
    obtain ⟨r3, mi1, ml2, hc, h⟩ := h
    refine ab_wc 3 (c := 91) (as := [.ref 33, .int x1]) (pc := 33) (ll := [some (.ref 33), some (.int x1), some (.int x2), some (.int x3)]) (st := []) (c1 := 0) (s1 := 0) (g := (ab_G mi ml)) rfl ⟨trivial, trivial, trivial⟩ hc ?_
    exact ab_wr 1 rfl trivial h
  · have h := h.2 c
    refine ab_wi (fun c => ?_) (fun c => ?_)
    · have h := h.1 c
      obtain ⟨r6, mi4, ml5, hc, h⟩ := h
      refine ab_wc 3 (c := 92) (as := [.ref 33, .int x1]) (pc := 39) (ll := [some (.ref 33), some (.int x1), some (.int x2), some (.int x3)]) (st := []) (c1 := 0) (s1 := 0) (g := (ab_G mi ml)) rfl ⟨trivial, trivial, trivial⟩ hc ?_
      exact ab_wr 1 rfl trivial h
    · have h := h.2 c
      refine ab_wi (fun c => ?_) (fun c => ?_)
      · have h := h.1 c
        obtain ⟨r9, mi7, ml8, hc, h⟩ := h
        refine ab_wc 3 (c := 93) (as := [.ref 33, .int x1]) (pc := 45) (ll := [some (.ref 33), some (.int x1), some (.int x2), some (.int x3)]) (st := []) (c1 := 0) (s1 := 0) (g := (ab_G mi ml)) rfl ⟨trivial, trivial, trivial⟩ hc ?_
        exact ab_wr 1 rfl trivial h
      · have h := h.2 c
        obtain ⟨r12, mi10, ml11, hc, h⟩ := h
        refine ab_wc 4 (c := 94) (as := [.ref 33, .int x1, .int x3]) (pc := 52) (ll := [some (.ref 33), some (.int x1), some (.int x2), some (.int x3)]) (st := []) (c1 := 0) (s1 := 0) (g := (ab_G mi ml)) rfl ⟨trivial, trivial, trivial, trivial⟩ hc ?_
        exact ab_wr 1 rfl trivial h
theorem vc_X9_hands_0 {call : Nat → List Value → ab_S → Option Value → ab_S → Prop} {ro : ab_E} {Q : Option Value → ab_S → Prop} (x1 : Int32) (mi : Nat → Nat → Int32) (ml : Nat → Nat → Int64)
    (h : ab_W call ro 0 0 (ab_lk2 pl_X9_hands) Q (8, [some (.ref 33), some (.int x1), some (.long 0), none, some (.long 0), none, some (.int 0), none], [], 0, 0, (ab_G mi ml))) :
    ab_W call ro 0 0 (ab_lk2 pl_X9_hands) Q (0, [some (.ref 33), some (.int x1), none, none, none, none, none, none], [], 0, 0, ab_G mi ml) := by
  exact ab_wk 6 (f' := (8, [some (.ref 33), some (.int x1), some (.long 0), none, some (.long 0), none, some (.int 0), none], [], 0, 0, (ab_G mi ml))) rfl ⟨trivial, trivial, trivial, trivial, trivial, trivial, trivial⟩ h
theorem vc_X9_hands_8 {call : Nat → List Value → ab_S → Option Value → ab_S → Prop} {ro : ab_E} {Q : Option Value → ab_S → Prop} (y1 : Int32) (y2 : Int64) (y4 : Int64) (y6 : Int32) (mi : Nat → Nat → Int32) (ml : Nat → Nat → Int64)
    (h : ((y6 < (mi 12 5)) → (vp_in y6 30 ∧ (vp_in y6 30 ∧ ((((mi 26 (y6).toNatClampNeg) = y1) → ((((mi 15 (y6).toNatClampNeg) < 64) → (ab_W call ro 0 0 (ab_lk2 pl_X9_hands) Q (8, [some (.ref 33), some (.int y1), some (.long (y2 ||| ((1 : Int64) <<< (((mi 15 (y6).toNatClampNeg)).toInt64 &&& 63)))), none, some (.long y4), none, some (.int (y6 + 1)), none], [], 0, 0, (ab_G mi ml)))) ∧ (¬ ((mi 15 (y6).toNatClampNeg) < 64) → (vp_in y6 30 ∧ ((((mi 26 (y6).toNatClampNeg) = y1) → (ab_W call ro 0 0 (ab_lk2 pl_X9_hands) Q (8, [some (.ref 33), some (.int y1), some (.long y2), none, some (.long (y4 ||| ((1 : Int64) <<< ((((mi 15 (y6).toNatClampNeg) - 64)).toInt64 &&& 63)))), none, some (.int (y6 + 1)), none], [], 0, 0, (ab_G mi ml)))) ∧ (¬ ((mi 26 (y6).toNatClampNeg) = y1) → (ab_W call ro 0 0 (ab_lk2 pl_X9_hands) Q (8, [some (.ref 33), some (.int y1), some (.long y2), none, some (.long y4), none, some (.int (y6 + 1)), none], [], 0, 0, (ab_G mi ml))))))))) ∧ (¬ ((mi 26 (y6).toNatClampNeg) = y1) → (vp_in y6 30 ∧ ((((mi 26 (y6).toNatClampNeg) = y1) → (ab_W call ro 0 0 (ab_lk2 pl_X9_hands) Q (8, [some (.ref 33), some (.int y1), some (.long y2), none, some (.long (y4 ||| ((1 : Int64) <<< ((((mi 15 (y6).toNatClampNeg) - 64)).toInt64 &&& 63)))), none, some (.int (y6 + 1)), none], [], 0, 0, (ab_G mi ml)))) ∧ (¬ ((mi 26 (y6).toNatClampNeg) = y1) → (ab_W call ro 0 0 (ab_lk2 pl_X9_hands) Q (8, [some (.ref 33), some (.int y1), some (.long y2), none, some (.long y4), none, some (.int (y6 + 1)), none], [], 0, 0, (ab_G mi ml))))))))))) ∧ (¬ (y6 < (mi 12 5)) → (∃ (r3 : Int32) (mi1 : Nat → Nat → Int32) (ml2 : Nat → Nat → Int64), call 243 [.long y2] (ab_G mi ml) (some (.int r3)) (ab_G mi1 ml2) ∧ (∃ (r6 : Int32) (mi4 : Nat → Nat → Int32) (ml5 : Nat → Nat → Int64), call 243 [.long y4] (ab_G mi1 ml2) (some (.int r6)) (ab_G mi4 ml5) ∧ (Q (some (.int (r3 + r6))) (ab_G mi4 ml5)))))) :
    ab_W call ro 0 0 (ab_lk2 pl_X9_hands) Q (8, [some (.ref 33), some (.int y1), some (.long y2), none, some (.long y4), none, some (.int y6), none], [], 0, 0, ab_G mi ml) := by
  refine ab_wk 5 (f' := (if y6 < (mi 12 5) then 20 else 95, [some (.ref 33), some (.int y1), some (.long y2), none, some (.long y4), none, some (.int y6), none], [], 0, 0, (ab_G mi ml))) rfl ⟨trivial, trivial, trivial, trivial, trivial, trivial⟩ ?_
  refine ab_wi (fun c => ?_) (fun c => ?_)
  · have h := h.1 c
    obtain ⟨p0, p1, h⟩ := h
    refine ab_wk 13 (f' := (if (mi 26 (y6).toNatClampNeg) = y1 then 46 else 63, [some (.ref 33), some (.int y1), some (.long y2), none, some (.long y4), none, some (.int y6), some (.int (mi 15 (y6).toNatClampNeg))], [], 0, 0, (ab_G mi ml))) rfl ⟨trivial, trivial, trivial, trivial, p0, trivial, trivial, trivial, trivial, trivial, p1, trivial, trivial, trivial⟩ ?_
    refine ab_wi (fun c => ?_) (fun c => ?_)
    · have h := h.1 c
      refine ab_wk 3 (f' := (if (mi 15 (y6).toNatClampNeg) < 64 then 53 else 63, [some (.ref 33), some (.int y1), some (.long y2), none, some (.long y4), none, some (.int y6), some (.int (mi 15 (y6).toNatClampNeg))], [], 0, 0, (ab_G mi ml))) rfl ⟨trivial, trivial, trivial, trivial⟩ ?_
      refine ab_wi (fun c => ?_) (fun c => ?_)
      · have h := h.1 c
        exact ab_wk 9 (f' := (8, [some (.ref 33), some (.int y1), some (.long (y2 ||| ((1 : Int64) <<< (((mi 15 (y6).toNatClampNeg)).toInt64 &&& 63)))), none, some (.long y4), none, some (.int (y6 + 1)), some (.int (mi 15 (y6).toNatClampNeg))], [], 0, 0, (ab_G mi ml))) rfl ⟨trivial, trivial, trivial, trivial, trivial, trivial, trivial, trivial, trivial, trivial⟩ (ab_drop h (ab_lrc _ (ab_lrc _ (ab_lrc _ (ab_lrc _ (ab_lrc _ (ab_lrc _ (ab_lrc _ (ab_lrn _ ab_lr0)))))))))
      · have h := h.2 c
        obtain ⟨p0, h⟩ := h
        refine ab_wk 7 (f' := (if (mi 26 (y6).toNatClampNeg) = y1 then 77 else 89, [some (.ref 33), some (.int y1), some (.long y2), none, some (.long y4), none, some (.int y6), some (.int (mi 15 (y6).toNatClampNeg))], [], 0, 0, (ab_G mi ml))) rfl ⟨trivial, trivial, trivial, trivial, p0, trivial, trivial, trivial⟩ ?_
        refine ab_wi (fun c => ?_) (fun c => ?_)
        · have h := h.1 c
          exact ab_wk 10 (f' := (8, [some (.ref 33), some (.int y1), some (.long y2), none, some (.long (y4 ||| ((1 : Int64) <<< ((((mi 15 (y6).toNatClampNeg) - 64)).toInt64 &&& 63)))), none, some (.int (y6 + 1)), some (.int (mi 15 (y6).toNatClampNeg))], [], 0, 0, (ab_G mi ml))) rfl ⟨trivial, trivial, trivial, trivial, trivial, trivial, trivial, trivial, trivial, trivial, trivial⟩ (ab_drop h (ab_lrc _ (ab_lrc _ (ab_lrc _ (ab_lrc _ (ab_lrc _ (ab_lrc _ (ab_lrc _ (ab_lrn _ ab_lr0)))))))))
        · have h := h.2 c
          exact ab_wk 2 (f' := (8, [some (.ref 33), some (.int y1), some (.long y2), none, some (.long y4), none, some (.int (y6 + 1)), some (.int (mi 15 (y6).toNatClampNeg))], [], 0, 0, (ab_G mi ml))) rfl ⟨trivial, trivial, trivial⟩ (ab_drop h (ab_lrc _ (ab_lrc _ (ab_lrc _ (ab_lrc _ (ab_lrc _ (ab_lrc _ (ab_lrc _ (ab_lrn _ ab_lr0)))))))))
    · have h := h.2 c
      obtain ⟨p0, h⟩ := h
      refine ab_wk 7 (f' := (if (mi 26 (y6).toNatClampNeg) = y1 then 77 else 89, [some (.ref 33), some (.int y1), some (.long y2), none, some (.long y4), none, some (.int y6), some (.int (mi 15 (y6).toNatClampNeg))], [], 0, 0, (ab_G mi ml))) rfl ⟨trivial, trivial, trivial, trivial, p0, trivial, trivial, trivial⟩ ?_
      refine ab_wi (fun c => ?_) (fun c => ?_)
      · have h := h.1 c
        exact ab_wk 10 (f' := (8, [some (.ref 33), some (.int y1), some (.long y2), none, some (.long (y4 ||| ((1 : Int64) <<< ((((mi 15 (y6).toNatClampNeg) - 64)).toInt64 &&& 63)))), none, some (.int (y6 + 1)), some (.int (mi 15 (y6).toNatClampNeg))], [], 0, 0, (ab_G mi ml))) rfl ⟨trivial, trivial, trivial, trivial, trivial, trivial, trivial, trivial, trivial, trivial, trivial⟩ (ab_drop h (ab_lrc _ (ab_lrc _ (ab_lrc _ (ab_lrc _ (ab_lrc _ (ab_lrc _ (ab_lrc _ (ab_lrn _ ab_lr0)))))))))
      · have h := h.2 c
        exact ab_wk 2 (f' := (8, [some (.ref 33), some (.int y1), some (.long y2), none, some (.long y4), none, some (.int (y6 + 1)), some (.int (mi 15 (y6).toNatClampNeg))], [], 0, 0, (ab_G mi ml))) rfl ⟨trivial, trivial, trivial⟩ (ab_drop h (ab_lrc _ (ab_lrc _ (ab_lrc _ (ab_lrc _ (ab_lrc _ (ab_lrc _ (ab_lrc _ (ab_lrn _ ab_lr0)))))))))
  · have h := h.2 c
    obtain ⟨r3, mi1, ml2, hc, h⟩ := h
    refine ab_wc 2 (c := 243) (as := [.long y2]) (pc := 99) (ll := [some (.ref 33), some (.int y1), some (.long y2), none, some (.long y4), none, some (.int y6), none]) (st := []) (c1 := 0) (s1 := 0) (g := (ab_G mi ml)) rfl ⟨trivial, trivial⟩ hc ?_
    obtain ⟨r6, mi4, ml5, hc, h⟩ := h
    refine ab_wc 2 (c := 243) (as := [.long y4]) (pc := 104) (ll := [some (.ref 33), some (.int y1), some (.long y2), none, some (.long y4), none, some (.int y6), none]) (st := [.int r3]) (c1 := 0) (s1 := 0) (g := (ab_G mi1 ml2)) rfl ⟨trivial, trivial⟩ hc ?_
    exact ab_wr 2 rfl ⟨trivial, trivial⟩ h
theorem vc_X9_houses_0 {call : Nat → List Value → ab_S → Option Value → ab_S → Prop} {ro : ab_E} {Q : Option Value → ab_S → Prop} (x1 : Int32) (mi : Nat → Nat → Int32) (ml : Nat → Nat → Int64)
    (h : ab_W call ro 0 0 (ab_lk2 pl_X9_houses) Q (4, [some (.ref 33), some (.int x1), some (.int 0), some (.int 0)], [], 0, 0, (ab_G mi ml))) :
    ab_W call ro 0 0 (ab_lk2 pl_X9_houses) Q (0, [some (.ref 33), some (.int x1), none, none], [], 0, 0, ab_G mi ml) := by
  exact ab_wk 4 (f' := (4, [some (.ref 33), some (.int x1), some (.int 0), some (.int 0)], [], 0, 0, (ab_G mi ml))) rfl ⟨trivial, trivial, trivial, trivial, trivial⟩ h
theorem vc_X9_houses_4 {call : Nat → List Value → ab_S → Option Value → ab_S → Prop} {ro : ab_E} {Q : Option Value → ab_S → Prop} (y1 : Int32) (y2 : Int32) (y3 : Int32) (mi : Nat → Nat → Int32) (ml : Nat → Nat → Int64)
    (h : ((y3 < (mi 12 5)) → (vp_in y3 30 ∧ ((((mi 26 (y3).toNatClampNeg) = y1) → (vp_in y3 30 ∧ (vp_in (mi 15 (y3).toNatClampNeg) 100 ∧ (ab_W call ro 0 0 (ab_lk2 pl_X9_houses) Q (4, [some (.ref 33), some (.int y1), some (.int (y2 ||| ((1 : Int32) <<< ((mi 24 ((mi 15 (y3).toNatClampNeg)).toNatClampNeg) &&& 31)))), some (.int (y3 + 1))], [], 0, 0, (ab_G mi ml)))))) ∧ (¬ ((mi 26 (y3).toNatClampNeg) = y1) → (ab_W call ro 0 0 (ab_lk2 pl_X9_houses) Q (4, [some (.ref 33), some (.int y1), some (.int y2), some (.int (y3 + 1))], [], 0, 0, (ab_G mi ml))))))) ∧ (¬ (y3 < (mi 12 5)) → (∃ (r3 : Int32) (mi1 : Nat → Nat → Int32) (ml2 : Nat → Nat → Int64), call 242 [.int y2] (ab_G mi ml) (some (.int r3)) (ab_G mi1 ml2) ∧ (Q (some (.int r3)) (ab_G mi1 ml2))))) :
    ab_W call ro 0 0 (ab_lk2 pl_X9_houses) Q (4, [some (.ref 33), some (.int y1), some (.int y2), some (.int y3)], [], 0, 0, ab_G mi ml) := by
  refine ab_wk 5 (f' := (if y3 < (mi 12 5) then 15 else 53, [some (.ref 33), some (.int y1), some (.int y2), some (.int y3)], [], 0, 0, (ab_G mi ml))) rfl ⟨trivial, trivial, trivial, trivial, trivial, trivial⟩ ?_
  refine ab_wi (fun c => ?_) (fun c => ?_)
  · have h := h.1 c
    obtain ⟨p0, h⟩ := h
    refine ab_wk 7 (f' := (if (mi 26 (y3).toNatClampNeg) = y1 then 28 else 47, [some (.ref 33), some (.int y1), some (.int y2), some (.int y3)], [], 0, 0, (ab_G mi ml))) rfl ⟨trivial, trivial, trivial, trivial, p0, trivial, trivial, trivial⟩ ?_
    refine ab_wi (fun c => ?_) (fun c => ?_)
    · have h := h.1 c
      obtain ⟨p0, p1, h⟩ := h
      exact ab_wk 15 (f' := (4, [some (.ref 33), some (.int y1), some (.int (y2 ||| ((1 : Int32) <<< ((mi 24 ((mi 15 (y3).toNatClampNeg)).toNatClampNeg) &&& 31)))), some (.int (y3 + 1))], [], 0, 0, (ab_G mi ml))) rfl ⟨trivial, trivial, trivial, trivial, trivial, trivial, trivial, trivial, p0, p1, trivial, trivial, trivial, trivial, trivial, trivial⟩ h
    · have h := h.2 c
      exact ab_wk 2 (f' := (4, [some (.ref 33), some (.int y1), some (.int y2), some (.int (y3 + 1))], [], 0, 0, (ab_G mi ml))) rfl ⟨trivial, trivial, trivial⟩ h
  · have h := h.2 c
    obtain ⟨r3, mi1, ml2, hc, h⟩ := h
    refine ab_wc 2 (c := 242) (as := [.int y2]) (pc := 57) (ll := [some (.ref 33), some (.int y1), some (.int y2), some (.int y3)]) (st := []) (c1 := 0) (s1 := 0) (g := (ab_G mi ml)) rfl ⟨trivial, trivial⟩ hc ?_
    exact ab_wr 1 rfl trivial h
theorem vc_X9_reach_0 {call : Nat → List Value → ab_S → Option Value → ab_S → Prop} {ro : ab_E} {Q : Option Value → ab_S → Prop} (x1 : Int32) (mi : Nat → Nat → Int32) (ml : Nat → Nat → Int64)
    (h : ∃ (r3 : Int64) (mi1 : Nat → Nat → Int32) (ml2 : Nat → Nat → Int64), call 48 [.ref 9] (ab_G mi ml) (some (.long r3)) (ab_G mi1 ml2) ∧ (∃ (mi4 : Nat → Nat → Int32) (ml5 : Nat → Nat → Int64), call 50 [.ref 9, .long r3] (ab_G mi1 ml2) none (ab_G mi4 ml5) ∧ (∃ (r8 : Int64) (mi6 : Nat → Nat → Int32) (ml7 : Nat → Nat → Int64), call 32 [.ref 25, .int ((1 : Int32) <<< (x1 &&& 31))] (ab_G mi4 ml5) (some (.long r8)) (ab_G mi6 ml7) ∧ (∃ (mi9 : Nat → Nat → Int32) (ml10 : Nat → Nat → Int64), call 50 [.ref 9, .long r8] (ab_G mi6 ml7) none (ab_G mi9 ml10) ∧ (∃ (r13 : Int32) (mi11 : Nat → Nat → Int32) (ml12 : Nat → Nat → Int64), call 243 [.long ((ml5 9 4) ^^^ (ml10 9 4))] (ab_G mi9 ml10) (some (.int r13)) (ab_G mi11 ml12) ∧ (∃ (r16 : Int32) (mi14 : Nat → Nat → Int32) (ml15 : Nat → Nat → Int64), call 243 [.long ((ml5 9 5) ^^^ (ml12 9 5))] (ab_G mi11 ml12) (some (.int r16)) (ab_G mi14 ml15) ∧ (Q (some (.int (r13 + r16))) (ab_G mi14 ml15)))))))) :
    ab_W call ro 0 0 (ab_lk2 pl_X9_reach) Q (0, [some (.ref 33), some (.int x1), none, none, none, none], [], 0, 0, ab_G mi ml) := by
  obtain ⟨r3, mi1, ml2, hc, h⟩ := h
  refine ab_wc 5 (c := 48) (as := [.ref 9]) (pc := 11) (ll := [some (.ref 33), some (.int x1), none, none, none, none]) (st := [.ref 9]) (c1 := 0) (s1 := 0) (g := (ab_G mi ml)) rfl ⟨trivial, trivial, trivial, trivial, trivial⟩ hc ?_
  obtain ⟨mi4, ml5, hc, h⟩ := h
  refine ab_wc 1 (c := 50) (as := [.ref 9, .long r3]) (pc := 14) (ll := [some (.ref 33), some (.int x1), none, none, none, none]) (st := []) (c1 := 0) (s1 := 0) (g := (ab_G mi1 ml2)) rfl trivial hc ?_
  obtain ⟨r8, mi6, ml7, hc, h⟩ := h
  refine ab_wc 16 (c := 32) (as := [.ref 25, .int ((1 : Int32) <<< (x1 &&& 31))]) (pc := 45) (ll := [some (.ref 33), some (.int x1), some (.long (ml5 9 4)), none, some (.long (ml5 9 5)), none]) (st := [.ref 9]) (c1 := 0) (s1 := 0) (g := (ab_G mi4 ml5)) rfl ⟨trivial, trivial, trivial, trivial, trivial, trivial, trivial, trivial, trivial, trivial, trivial, trivial, trivial, trivial, trivial, trivial⟩ hc ?_
  obtain ⟨mi9, ml10, hc, h⟩ := h
  refine ab_wc 1 (c := 50) (as := [.ref 9, .long r8]) (pc := 48) (ll := [some (.ref 33), some (.int x1), some (.long (ml5 9 4)), none, some (.long (ml5 9 5)), none]) (st := []) (c1 := 0) (s1 := 0) (g := (ab_G mi6 ml7)) rfl trivial hc ?_
  obtain ⟨r13, mi11, ml12, hc, h⟩ := h
  refine ab_wc 6 (c := 243) (as := [.long ((ml5 9 4) ^^^ (ml10 9 4))]) (pc := 60) (ll := [some (.ref 33), some (.int x1), some (.long (ml5 9 4)), none, some (.long (ml5 9 5)), none]) (st := []) (c1 := 0) (s1 := 0) (g := (ab_G mi9 ml10)) rfl ⟨trivial, trivial, trivial, trivial, trivial, trivial⟩ hc ?_
  obtain ⟨r16, mi14, ml15, hc, h⟩ := h
  refine ab_wc 6 (c := 243) (as := [.long ((ml5 9 5) ^^^ (ml12 9 5))]) (pc := 73) (ll := [some (.ref 33), some (.int x1), some (.long (ml5 9 4)), none, some (.long (ml5 9 5)), none]) (st := [.int r13]) (c1 := 0) (s1 := 0) (g := (ab_G mi11 ml12)) rfl ⟨trivial, trivial, trivial, trivial, trivial, trivial⟩ hc ?_
  exact ab_wr 2 rfl ⟨trivial, trivial⟩ h
theorem vc_X9_groundsHeld_0 {call : Nat → List Value → ab_S → Option Value → ab_S → Prop} {ro : ab_E} {Q : Option Value → ab_S → Prop} (x1 : Int32) (x2 : Int32) (mi : Nat → Nat → Int32) (ml : Nat → Nat → Int64)
    (h : ab_W call ro 0 0 (ab_lk2 pl_X9_groundsHeld) Q (5, [some (.ref 33), some (.int x1), some (.int x2), some (.int 0), some (.int 0)], [], 0, 0, (ab_G mi ml))) :
    ab_W call ro 0 0 (ab_lk2 pl_X9_groundsHeld) Q (0, [some (.ref 33), some (.int x1), some (.int x2), none, none], [], 0, 0, ab_G mi ml) := by
  exact ab_wk 4 (f' := (5, [some (.ref 33), some (.int x1), some (.int x2), some (.int 0), some (.int 0)], [], 0, 0, (ab_G mi ml))) rfl ⟨trivial, trivial, trivial, trivial, trivial⟩ h
theorem vc_X9_groundsHeld_5 {call : Nat → List Value → ab_S → Option Value → ab_S → Prop} {ro : ab_E} {Q : Option Value → ab_S → Prop} (y1 : Int32) (y2 : Int32) (y3 : Int32) (y4 : Int32) (mi : Nat → Nat → Int32) (ml : Nat → Nat → Int64)
    (h : ((y4 < (mi 18 6)) → (vp_in y4 20 ∧ (vp_in (mi 21 (y4).toNatClampNeg) 30 ∧ ((((mi 26 ((mi 21 (y4).toNatClampNeg)).toNatClampNeg) = y1) → (∃ (r3 : Int32) (mi1 : Nat → Nat → Int32) (ml2 : Nat → Nat → Int64), call 19 [.ref 18, .int y4, .int y2] (ab_G mi ml) (some (.int r3)) (ab_G mi1 ml2) ∧ (((r3 = 0) → (ab_W call ro 0 0 (ab_lk2 pl_X9_groundsHeld) Q (5, [some (.ref 33), some (.int y1), some (.int y2), some (.int y3), some (.int (y4 + 1))], [], 0, 0, (ab_G mi1 ml2)))) ∧ (¬ (r3 = 0) → (ab_W call ro 0 0 (ab_lk2 pl_X9_groundsHeld) Q (5, [some (.ref 33), some (.int y1), some (.int y2), some (.int (y3 + 1)), some (.int (y4 + 1))], [], 0, 0, (ab_G mi1 ml2))))))) ∧ (¬ ((mi 26 ((mi 21 (y4).toNatClampNeg)).toNatClampNeg) = y1) → (ab_W call ro 0 0 (ab_lk2 pl_X9_groundsHeld) Q (5, [some (.ref 33), some (.int y1), some (.int y2), some (.int y3), some (.int (y4 + 1))], [], 0, 0, (ab_G mi ml)))))))) ∧ (¬ (y4 < (mi 18 6)) → (Q (some (.int y3)) (ab_G mi ml)))) :
    ab_W call ro 0 0 (ab_lk2 pl_X9_groundsHeld) Q (5, [some (.ref 33), some (.int y1), some (.int y2), some (.int y3), some (.int y4)], [], 0, 0, ab_G mi ml) := by
  refine ab_wk 5 (f' := (if y4 < (mi 18 6) then 17 else 61, [some (.ref 33), some (.int y1), some (.int y2), some (.int y3), some (.int y4)], [], 0, 0, (ab_G mi ml))) rfl ⟨trivial, trivial, trivial, trivial, trivial, trivial⟩ ?_
  refine ab_wi (fun c => ?_) (fun c => ?_)
  · have h := h.1 c
    obtain ⟨p0, p1, h⟩ := h
    refine ab_wk 11 (f' := (if (mi 26 ((mi 21 (y4).toNatClampNeg)).toNatClampNeg) = y1 then 39 else 55, [some (.ref 33), some (.int y1), some (.int y2), some (.int y3), some (.int y4)], [], 0, 0, (ab_G mi ml))) rfl ⟨trivial, trivial, trivial, trivial, trivial, trivial, trivial, p0, p1, trivial, trivial, trivial⟩ ?_
    refine ab_wi (fun c => ?_) (fun c => ?_)
    · have h := h.1 c
      obtain ⟨r3, mi1, ml2, hc, h⟩ := h
      refine ab_wc 5 (c := 19) (as := [.ref 18, .int y4, .int y2]) (pc := 49) (ll := [some (.ref 33), some (.int y1), some (.int y2), some (.int y3), some (.int y4)]) (st := []) (c1 := 0) (s1 := 0) (g := (ab_G mi ml)) rfl ⟨trivial, trivial, trivial, trivial, trivial⟩ hc ?_
      refine ab_wk 1 (f' := (if r3 = 0 then 55 else 52, [some (.ref 33), some (.int y1), some (.int y2), some (.int y3), some (.int y4)], [], 0, 0, (ab_G mi1 ml2))) rfl ⟨trivial, trivial⟩ ?_
      refine ab_wi (fun c => ?_) (fun c => ?_)
      · have h := h.1 c
        exact ab_wk 2 (f' := (5, [some (.ref 33), some (.int y1), some (.int y2), some (.int y3), some (.int (y4 + 1))], [], 0, 0, (ab_G mi1 ml2))) rfl ⟨trivial, trivial, trivial⟩ h
      · have h := h.2 c
        exact ab_wk 3 (f' := (5, [some (.ref 33), some (.int y1), some (.int y2), some (.int (y3 + 1)), some (.int (y4 + 1))], [], 0, 0, (ab_G mi1 ml2))) rfl ⟨trivial, trivial, trivial, trivial⟩ h
    · have h := h.2 c
      exact ab_wk 2 (f' := (5, [some (.ref 33), some (.int y1), some (.int y2), some (.int y3), some (.int (y4 + 1))], [], 0, 0, (ab_G mi ml))) rfl ⟨trivial, trivial, trivial⟩ h
  · have h := h.2 c
    exact ab_wr 2 rfl ⟨trivial, trivial⟩ h
