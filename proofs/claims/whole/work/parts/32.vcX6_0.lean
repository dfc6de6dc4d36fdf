theorem vc_X6_put_0 {call : Nat → List Value → ab_S → Option Value → ab_S → Prop} {ro : ab_E} {Q : Option Value → ab_S → Prop} (x1 : Int32) (x2 : Int64) (x4 : Int64) (x6 : Int32) (mi : Nat → Nat → Int32) (ml : Nat → Nat → Int64)
    (h : ((x1 < 0) → (Q none (ab_G mi ml))) ∧ (¬ (x1 < 0) → (((x1 < 42) → (vp_in x1 42 ∧ (vp_in x1 42 ∧ (((x6 = 0) → (Q none (ab_G mi (ab_ul (ab_ul (ab_ul ml 10 (x1).toNatClampNeg x2) 11 (x1).toNatClampNeg x4) 9 2 ((ml 9 2) &&& (((1 : Int64) <<< ((x1).toInt64 &&& 63)) ^^^ (-1))))))) ∧ (¬ (x6 = 0) → (Q none (ab_G mi (ab_ul (ab_ul (ab_ul ml 10 (x1).toNatClampNeg x2) 11 (x1).toNatClampNeg x4) 9 2 ((ml 9 2) ||| ((1 : Int64) <<< ((x1).toInt64 &&& 63))))))))))) ∧ (¬ (x1 < 42) → (Q none (ab_G mi ml)))))) :
    ab_W call ro 0 0 (ab_lk2 pl_X6_put) Q (0, [some (.ref 9), some (.int x1), some (.long x2), none, some (.long x4), none, some (.int x6), none, none], [], 0, 0, ab_G mi ml) := by
  refine ab_wk 2 (f' := (if x1 < 0 then 10 else 4, [some (.ref 9), some (.int x1), some (.long x2), none, some (.long x4), none, some (.int x6), none, none], [], 0, 0, (ab_G mi ml))) rfl ⟨trivial, trivial, trivial⟩ ?_
  refine ab_wi (fun c => ?_) (fun c => ?_)
  · have h := h.1 c
    exact ab_wr 1 rfl trivial h
  · have h := h.2 c
    refine ab_wk 3 (f' := (if x1 < 42 then 11 else 10, [some (.ref 9), some (.int x1), some (.long x2), none, some (.long x4), none, some (.int x6), none, none], [], 0, 0, (ab_G mi ml))) rfl ⟨trivial, trivial, trivial, trivial⟩ ?_
    refine ab_wi (fun c => ?_) (fun c => ?_)
    · have h := h.1 c
      obtain ⟨p0, p1, h⟩ := h
      refine ab_wk 17 (f' := (if x6 = 0 then 47 else 37, [some (.ref 9), some (.int x1), some (.long x2), none, some (.long x4), none, some (.int x6), some (.long ((1 : Int64) <<< ((x1).toInt64 &&& 63))), none], [.ref 9], 0, 0, (ab_G mi (ab_ul (ab_ul ml 10 (x1).toNatClampNeg x2) 11 (x1).toNatClampNeg x4)))) rfl ⟨trivial, trivial, trivial, trivial, p0, trivial, trivial, trivial, trivial, p1, trivial, trivial, trivial, trivial, trivial, trivial, trivial, trivial⟩ ?_
      refine ab_wi (fun c => ?_) (fun c => ?_)
      · have h := h.1 c
        exact ab_wr 8 rfl ⟨trivial, trivial, trivial, trivial, trivial, trivial, trivial, trivial⟩ h
      · have h := h.2 c
        exact ab_wr 7 rfl ⟨trivial, trivial, trivial, trivial, trivial, trivial, trivial⟩ h
    · have h := h.2 c
      exact ab_wr 1 rfl trivial h
theorem vc_X6_enact_0 {call : Nat → List Value → ab_S → Option Value → ab_S → Prop} {ro : ab_E} {Q : Option Value → ab_S → Prop}  (mi : Nat → Nat → Int32) (ml : Nat → Nat → Int64)
    (h : ab_W call ro 0 0 (ab_lk2 pl_X6_enact) Q (10, [some (.ref 9), some (.ref 5), some (.int 0)], [], 0, 0, (ab_G (ab_ui mi 9 3 (mi 5 10)) ml))) :
    ab_W call ro 0 0 (ab_lk2 pl_X6_enact) Q (0, [some (.ref 9), some (.ref 5), none], [], 0, 0, ab_G mi ml) := by
  exact ab_wk 6 (f' := (10, [some (.ref 9), some (.ref 5), some (.int 0)], [], 0, 0, (ab_G (ab_ui mi 9 3 (mi 5 10)) ml))) rfl ⟨trivial, trivial, trivial, trivial, trivial, trivial, trivial⟩ h
theorem vc_X6_enact_10 {call : Nat → List Value → ab_S → Option Value → ab_S → Prop} {ro : ab_E} {Q : Option Value → ab_S → Prop} (y2 : Int32) (mi : Nat → Nat → Int32) (ml : Nat → Nat → Int64)
    (h : ((y2 < (mi 9 3)) → (((y2 < 12) → (vp_in y2 12 ∧ (vp_in y2 12 ∧ (vp_in y2 12 ∧ (∃ (mi1 : Nat → Nat → Int32) (ml2 : Nat → Nat → Int64), call 46 [.ref 9, .int y2, .long (ml 6 (y2).toNatClampNeg), .long (ml 7 (y2).toNatClampNeg), .int (mi 8 (y2).toNatClampNeg)] (ab_G mi ml) none (ab_G mi1 ml2) ∧ (ab_W call ro 0 0 (ab_lk2 pl_X6_enact) Q (10, [some (.ref 9), some (.ref 5), some (.int (y2 + 1))], [], 0, 0, (ab_G mi1 ml2)))))))) ∧ (¬ (y2 < 12) → (Q none (ab_G mi ml))))) ∧ (¬ (y2 < (mi 9 3)) → (Q none (ab_G mi ml)))) :
    ab_W call ro 0 0 (ab_lk2 pl_X6_enact) Q (10, [some (.ref 9), some (.ref 5), some (.int y2)], [], 0, 0, ab_G mi ml) := by
  refine ab_wk 4 (f' := (if y2 < (mi 9 3) then 18 else 53, [some (.ref 9), some (.ref 5), some (.int y2)], [], 0, 0, (ab_G mi ml))) rfl ⟨trivial, trivial, trivial, trivial, trivial⟩ ?_
  refine ab_wi (fun c => ?_) (fun c => ?_)
  · have h := h.1 c
    refine ab_wk 3 (f' := (if y2 < 12 then 24 else 53, [some (.ref 9), some (.ref 5), some (.int y2)], [], 0, 0, (ab_G mi ml))) rfl ⟨trivial, trivial, trivial, trivial⟩ ?_
    refine ab_wi (fun c => ?_) (fun c => ?_)
    · have h := h.1 c
      obtain ⟨p0, p1, p2, h⟩ := h
      obtain ⟨mi1, ml2, hc, h⟩ := h
      refine ab_wc 15 (c := 46) (as := [.ref 9, .int y2, .long (ml 6 (y2).toNatClampNeg), .long (ml 7 (y2).toNatClampNeg), .int (mi 8 (y2).toNatClampNeg)]) (pc := 47) (ll := [some (.ref 9), some (.ref 5), some (.int y2)]) (st := []) (c1 := 0) (s1 := 0) (g := (ab_G mi ml)) rfl ⟨trivial, trivial, trivial, trivial, trivial, p0, trivial, trivial, trivial, p1, trivial, trivial, trivial, p2, trivial⟩ hc ?_
      exact ab_wk 2 (f' := (10, [some (.ref 9), some (.ref 5), some (.int (y2 + 1))], [], 0, 0, (ab_G mi1 ml2))) rfl ⟨trivial, trivial, trivial⟩ h
    · have h := h.2 c
      exact ab_wr 1 rfl trivial h
  · have h := h.2 c
    exact ab_wr 1 rfl trivial h
theorem vc_X6_whole_0 {call : Nat → List Value → ab_S → Option Value → ab_S → Prop} {ro : ab_E} {Q : Option Value → ab_S → Prop}  (mi : Nat → Nat → Int32) (ml : Nat → Nat → Int64)
    (h : Q (some (.long (((1 : Int64) <<< (((mi 9 3)).toInt64 &&& 63)) - 1))) (ab_G mi ml)) :
    ab_W call ro 0 0 (ab_lk2 pl_X6_whole) Q (0, [some (.ref 9)], [], 0, 0, ab_G mi ml) := by
  exact ab_wr 7 rfl ⟨trivial, trivial, trivial, trivial, trivial, trivial, trivial⟩ h
theorem vc_X6_isMay_0 {call : Nat → List Value → ab_S → Option Value → ab_S → Prop} {ro : ab_E} {Q : Option Value → ab_S → Prop} (x1 : Int32) (mi : Nat → Nat → Int32) (ml : Nat → Nat → Int64)
    (h : (((lg_cmp (((ml 9 2) >>> ((x1).toInt64 &&& 63)) &&& 1) 0) = 0) → (Q (some (.int 0)) (ab_G mi ml))) ∧ (¬ ((lg_cmp (((ml 9 2) >>> ((x1).toInt64 &&& 63)) &&& 1) 0) = 0) → (Q (some (.int 1)) (ab_G mi ml)))) :
    ab_W call ro 0 0 (ab_lk2 pl_X6_isMay) Q (0, [some (.ref 9), some (.int x1)], [], 0, 0, ab_G mi ml) := by
  refine ab_wk 9 (f' := (if (lg_cmp (((ml 9 2) >>> ((x1).toInt64 &&& 63)) &&& 1) 0) = 0 then 17 else 13, [some (.ref 9), some (.int x1)], [], 0, 0, (ab_G mi ml))) rfl ⟨trivial, trivial, trivial, trivial, trivial, trivial, trivial, trivial, trivial, trivial⟩ ?_
  refine ab_wi (fun c => ?_) (fun c => ?_)
  · have h := h.1 c
    exact ab_wr 2 rfl ⟨trivial, (Or.inl rfl)⟩ h
  · have h := h.2 c
    exact ab_wr 3 rfl ⟨trivial, trivial, (Or.inr rfl)⟩ h
theorem vc_X6_open_0 {call : Nat → List Value → ab_S → Option Value → ab_S → Prop} {ro : ab_E} {Q : Option Value → ab_S → Prop} (x1 : Int64) (mi : Nat → Nat → Int32) (ml : Nat → Nat → Int64)
    (h : ab_W call ro 0 0 (ab_lk2 pl_X6_open) Q (28, [some (.ref 9), some (.long x1), none, some (.long (-1)), none, some (.long (-1)), none, some (.long ((x1 &&& ((ml 9 2) ^^^ (-1))) &&& 4398046511103)), none, some (.int 0), none], [], 0, 0, (ab_G mi ml))) :
    ab_W call ro 0 0 (ab_lk2 pl_X6_open) Q (0, [some (.ref 9), some (.long x1), none, none, none, none, none, none, none, none, none], [], 0, 0, ab_G mi ml) := by
  exact ab_wk 15 (f' := (28, [some (.ref 9), some (.long x1), none, some (.long (-1)), none, some (.long (-1)), none, some (.long ((x1 &&& ((ml 9 2) ^^^ (-1))) &&& 4398046511103)), none, some (.int 0), none], [], 0, 0, (ab_G mi ml))) rfl ⟨trivial, trivial, trivial, trivial, trivial, trivial, trivial, trivial, trivial, trivial, trivial, trivial, trivial, trivial, trivial, trivial⟩ h
theorem vc_X6_open_28 {call : Nat → List Value → ab_S → Option Value → ab_S → Prop} {ro : ab_E} {Q : Option Value → ab_S → Prop} (y1 : Int64) (y3 : Int64) (y5 : Int64) (y7 : Int64) (y9 : Int32) (mi : Nat → Nat → Int32) (ml : Nat → Nat → Int64)
    (h : ((y9 < 42) → ((((lg_cmp y7 0) = 0) → (Q none (ab_G mi (ab_ul (ab_ul ml 9 4 y3) 9 5 y5)))) ∧ (¬ ((lg_cmp y7 0) = 0) → (∃ (r3 : Int32) (mi1 : Nat → Nat → Int32) (ml2 : Nat → Nat → Int64), call 243 [.long ((y7 &&& (-y7)) - 1)] (ab_G mi ml) (some (.int r3)) (ab_G mi1 ml2) ∧ (vp_in r3 42 ∧ (vp_in r3 42 ∧ (ab_W call ro 0 0 (ab_lk2 pl_X6_open) Q (28, [some (.ref 9), some (.long y1), none, some (.long (y3 &&& (ml2 10 (r3).toNatClampNeg))), none, some (.long (y5 &&& (ml2 11 (r3).toNatClampNeg))), none, some (.long (y7 &&& (y7 - 1))), none, some (.int (y9 + 1)), none], [], 0, 0, (ab_G mi1 ml2))))))))) ∧ (¬ (y9 < 42) → (Q none (ab_G mi (ab_ul (ab_ul ml 9 4 y3) 9 5 y5))))) :
    ab_W call ro 0 0 (ab_lk2 pl_X6_open) Q (28, [some (.ref 9), some (.long y1), none, some (.long y3), none, some (.long y5), none, some (.long y7), none, some (.int y9), none], [], 0, 0, ab_G mi ml) := by
  refine ab_wk 3 (f' := (if y9 < 42 then 35 else 92, [some (.ref 9), some (.long y1), none, some (.long y3), none, some (.long y5), none, some (.long y7), none, some (.int y9), none], [], 0, 0, (ab_G mi ml))) rfl ⟨trivial, trivial, trivial, trivial⟩ ?_
  refine ab_wi (fun c => ?_) (fun c => ?_)
  · have h := h.1 c
    refine ab_wk 4 (f' := (if (lg_cmp y7 0) = 0 then 92 else 42, [some (.ref 9), some (.long y1), none, some (.long y3), none, some (.long y5), none, some (.long y7), none, some (.int y9), none], [], 0, 0, (ab_G mi ml))) rfl ⟨trivial, trivial, trivial, trivial, trivial⟩ ?_
    refine ab_wi (fun c => ?_) (fun c => ?_)
    · have h := h.1 c
      exact ab_wr 7 rfl ⟨trivial, trivial, trivial, trivial, trivial, trivial, trivial⟩ h
    · have h := h.2 c
      obtain ⟨r3, mi1, ml2, hc, h⟩ := h
      refine ab_wc 7 (c := 243) (as := [.long ((y7 &&& (-y7)) - 1)]) (pc := 53) (ll := [some (.ref 9), some (.long y1), none, some (.long y3), none, some (.long y5), none, some (.long y7), none, some (.int y9), none]) (st := []) (c1 := 0) (s1 := 0) (g := (ab_G mi ml)) rfl ⟨trivial, trivial, trivial, trivial, trivial, trivial, trivial⟩ hc ?_
      obtain ⟨p0, p1, h⟩ := h
      exact ab_wk 23 (f' := (28, [some (.ref 9), some (.long y1), none, some (.long (y3 &&& (ml2 10 (r3).toNatClampNeg))), none, some (.long (y5 &&& (ml2 11 (r3).toNatClampNeg))), none, some (.long (y7 &&& (y7 - 1))), none, some (.int (y9 + 1)), some (.int r3)], [], 0, 0, (ab_G mi1 ml2))) rfl ⟨trivial, trivial, trivial, trivial, trivial, p0, trivial, trivial, trivial, trivial, trivial, trivial, p1, trivial, trivial, trivial, trivial, trivial, trivial, trivial, trivial, trivial, trivial, trivial⟩ (ab_drop h (ab_lrc _ (ab_lrc _ (ab_lrc _ (ab_lrc _ (ab_lrc _ (ab_lrc _ (ab_lrc _ (ab_lrc _ (ab_lrc _ (ab_lrc _ (ab_lrn _ ab_lr0))))))))))))
  · have h := h.2 c
    exact ab_wr 7 rfl ⟨trivial, trivial, trivial, trivial, trivial, trivial, trivial⟩ h
theorem vc_X6_openWorlds_0 {call : Nat → List Value → ab_S → Option Value → ab_S → Prop} {ro : ab_E} {Q : Option Value → ab_S → Prop} (x1 : Int64) (mi : Nat → Nat → Int32) (ml : Nat → Nat → Int64)
    (h : ∃ (mi1 : Nat → Nat → Int32) (ml2 : Nat → Nat → Int64), call 50 [.ref 9, .long x1] (ab_G mi ml) none (ab_G mi1 ml2) ∧ (∃ (r5 : Int32) (mi3 : Nat → Nat → Int32) (ml4 : Nat → Nat → Int64), call 243 [.long (ml2 9 4)] (ab_G mi1 ml2) (some (.int r5)) (ab_G mi3 ml4) ∧ (∃ (r8 : Int32) (mi6 : Nat → Nat → Int32) (ml7 : Nat → Nat → Int64), call 243 [.long (ml4 9 5)] (ab_G mi3 ml4) (some (.int r8)) (ab_G mi6 ml7) ∧ (Q (some (.int (r5 + r8))) (ab_G mi6 ml7))))) :
    ab_W call ro 0 0 (ab_lk2 pl_X6_openWorlds) Q (0, [some (.ref 9), some (.long x1), none], [], 0, 0, ab_G mi ml) := by
  obtain ⟨mi1, ml2, hc, h⟩ := h
  refine ab_wc 3 (c := 50) (as := [.ref 9, .long x1]) (pc := 5) (ll := [some (.ref 9), some (.long x1), none]) (st := []) (c1 := 0) (s1 := 0) (g := (ab_G mi ml)) rfl ⟨trivial, trivial, trivial⟩ hc ?_
  obtain ⟨r5, mi3, ml4, hc, h⟩ := h
  refine ab_wc 3 (c := 243) (as := [.long (ml2 9 4)]) (pc := 12) (ll := [some (.ref 9), some (.long x1), none]) (st := []) (c1 := 0) (s1 := 0) (g := (ab_G mi1 ml2)) rfl ⟨trivial, trivial, trivial⟩ hc ?_
  obtain ⟨r8, mi6, ml7, hc, h⟩ := h
  refine ab_wc 3 (c := 243) (as := [.long (ml4 9 5)]) (pc := 19) (ll := [some (.ref 9), some (.long x1), none]) (st := [.int r5]) (c1 := 0) (s1 := 0) (g := (ab_G mi3 ml4)) rfl ⟨trivial, trivial, trivial⟩ hc ?_
  exact ab_wr 2 rfl ⟨trivial, trivial⟩ h
theorem vc_X6_allows_0 {call : Nat → List Value → ab_S → Option Value → ab_S → Prop} {ro : ab_E} {Q : Option Value → ab_S → Prop} (x1 : Int64) (x3 : Int32) (mi : Nat → Nat → Int32) (ml : Nat → Nat → Int64)
    (h : ∃ (mi1 : Nat → Nat → Int32) (ml2 : Nat → Nat → Int64), call 50 [.ref 9, .long x1] (ab_G mi ml) none (ab_G mi1 ml2) ∧ (∃ (r5 : Int32) (mi3 : Nat → Nat → Int32) (ml4 : Nat → Nat → Int64), call 143 [.long (ml2 9 4), .long (ml2 9 5), .int x3] (ab_G mi1 ml2) (some (.int r5)) (ab_G mi3 ml4) ∧ ((r5 = 0 ∨ r5 = 1) ∧ (Q (some (.int r5)) (ab_G mi3 ml4))))) :
    ab_W call ro 0 0 (ab_lk2 pl_X6_allows) Q (0, [some (.ref 9), some (.long x1), none, some (.int x3)], [], 0, 0, ab_G mi ml) := by
  obtain ⟨mi1, ml2, hc, h⟩ := h
  refine ab_wc 3 (c := 50) (as := [.ref 9, .long x1]) (pc := 5) (ll := [some (.ref 9), some (.long x1), none, some (.int x3)]) (st := []) (c1 := 0) (s1 := 0) (g := (ab_G mi ml)) rfl ⟨trivial, trivial, trivial⟩ hc ?_
  obtain ⟨r5, mi3, ml4, hc, h⟩ := h
  refine ab_wc 6 (c := 143) (as := [.long (ml2 9 4), .long (ml2 9 5), .int x3]) (pc := 17) (ll := [some (.ref 9), some (.long x1), none, some (.int x3)]) (st := []) (c1 := 0) (s1 := 0) (g := (ab_G mi1 ml2)) rfl ⟨trivial, trivial, trivial, trivial, trivial, trivial⟩ hc ?_
  obtain ⟨p0, h⟩ := h
  exact ab_wr 1 rfl p0 h
theorem vc_X6_quarrel_0 {call : Nat → List Value → ab_S → Option Value → ab_S → Prop} {ro : ab_E} {Q : Option Value → ab_S → Prop} (x1 : Int64) (mi : Nat → Nat → Int32) (ml : Nat → Nat → Int64)
    (h : ∃ (mi1 : Nat → Nat → Int32) (ml2 : Nat → Nat → Int64), call 50 [.ref 9, .long x1] (ab_G mi ml) none (ab_G mi1 ml2) ∧ ((((lg_cmp ((ml2 9 4) ||| (ml2 9 5)) 0) = 0) → (Q (some (.int 2)) (ab_G mi1 ml2))) ∧ (¬ ((lg_cmp ((ml2 9 4) ||| (ml2 9 5)) 0) = 0) → (∃ (r5 : Int32) (mi3 : Nat → Nat → Int32) (ml4 : Nat → Nat → Int64), call 54 [.ref 9, .long x1] (ab_G mi1 ml2) (some (.int r5)) (ab_G mi3 ml4) ∧ (((r5 = (-1)) → (Q (some (.int 0)) (ab_G mi3 ml4))) ∧ (¬ (r5 = (-1)) → (Q (some (.int 3)) (ab_G mi3 ml4)))))))) :
    ab_W call ro 0 0 (ab_lk2 pl_X6_quarrel) Q (0, [some (.ref 9), some (.long x1), none], [], 0, 0, ab_G mi ml) := by
  obtain ⟨mi1, ml2, hc, h⟩ := h
  refine ab_wc 3 (c := 50) (as := [.ref 9, .long x1]) (pc := 5) (ll := [some (.ref 9), some (.long x1), none]) (st := []) (c1 := 0) (s1 := 0) (g := (ab_G mi ml)) rfl ⟨trivial, trivial, trivial⟩ hc ?_
  refine ab_wk 8 (f' := (if (lg_cmp ((ml2 9 4) ||| (ml2 9 5)) 0) = 0 then 19 else 21, [some (.ref 9), some (.long x1), none], [], 0, 0, (ab_G mi1 ml2))) rfl ⟨trivial, trivial, trivial, trivial, trivial, trivial, trivial, trivial, trivial⟩ ?_
  refine ab_wi (fun c => ?_) (fun c => ?_)
  · have h := h.1 c
    exact ab_wr 2 rfl ⟨trivial, trivial⟩ h
  · have h := h.2 c
    obtain ⟨r5, mi3, ml4, hc, h⟩ := h
    refine ab_wc 3 (c := 54) (as := [.ref 9, .long x1]) (pc := 26) (ll := [some (.ref 9), some (.long x1), none]) (st := []) (c1 := 0) (s1 := 0) (g := (ab_G mi1 ml2)) rfl ⟨trivial, trivial, trivial⟩ hc ?_
    refine ab_wk 2 (f' := (if r5 = (-1) then 30 else 34, [some (.ref 9), some (.long x1), none], [], 0, 0, (ab_G mi3 ml4))) rfl ⟨trivial, trivial, trivial⟩ ?_
    refine ab_wi (fun c => ?_) (fun c => ?_)
    · have h := h.1 c
      exact ab_wr 3 rfl ⟨trivial, trivial, trivial⟩ h
    · have h := h.2 c
      exact ab_wr 2 rfl ⟨trivial, trivial⟩ h
theorem vc_X6_inVain_0 {call : Nat → List Value → ab_S → Option Value → ab_S → Prop} {ro : ab_E} {Q : Option Value → ab_S → Prop} (x1 : Int64) (mi : Nat → Nat → Int32) (ml : Nat → Nat → Int64)
    (h : ab_W call ro 0 0 (ab_lk2 pl_X6_inVain) Q (14, [some (.ref 9), some (.long x1), none, some (.long ((x1 &&& (ml 9 2)) &&& 4398046511103)), none, some (.int 0), none], [], 0, 0, (ab_G mi ml))) :
    ab_W call ro 0 0 (ab_lk2 pl_X6_inVain) Q (0, [some (.ref 9), some (.long x1), none, none, none, none, none], [], 0, 0, ab_G mi ml) := by
  exact ab_wk 9 (f' := (14, [some (.ref 9), some (.long x1), none, some (.long ((x1 &&& (ml 9 2)) &&& 4398046511103)), none, some (.int 0), none], [], 0, 0, (ab_G mi ml))) rfl ⟨trivial, trivial, trivial, trivial, trivial, trivial, trivial, trivial, trivial, trivial⟩ h
theorem vc_X6_inVain_14 {call : Nat → List Value → ab_S → Option Value → ab_S → Prop} {ro : ab_E} {Q : Option Value → ab_S → Prop} (y1 : Int64) (y3 : Int64) (y5 : Int32) (mi : Nat → Nat → Int32) (ml : Nat → Nat → Int64)
    (h : ((y5 < 42) → ((((lg_cmp y3 0) = 0) → (Q (some (.int (-1))) (ab_G mi ml))) ∧ (¬ ((lg_cmp y3 0) = 0) → (∃ (r3 : Int32) (mi1 : Nat → Nat → Int32) (ml2 : Nat → Nat → Int64), call 243 [.long ((y3 &&& (-y3)) - 1)] (ab_G mi ml) (some (.int r3)) (ab_G mi1 ml2) ∧ (vp_in r3 42 ∧ (vp_in r3 42 ∧ ((((lg_cmp (((ml2 9 4) &&& (ml2 10 (r3).toNatClampNeg)) ||| ((ml2 9 5) &&& (ml2 11 (r3).toNatClampNeg))) 0) = 0) → (Q (some (.int r3)) (ab_G mi1 ml2))) ∧ (¬ ((lg_cmp (((ml2 9 4) &&& (ml2 10 (r3).toNatClampNeg)) ||| ((ml2 9 5) &&& (ml2 11 (r3).toNatClampNeg))) 0) = 0) → (ab_W call ro 0 0 (ab_lk2 pl_X6_inVain) Q (14, [some (.ref 9), some (.long y1), none, some (.long (y3 &&& (y3 - 1))), none, some (.int (y5 + 1)), none], [], 0, 0, (ab_G mi1 ml2))))))))))) ∧ (¬ (y5 < 42) → (Q (some (.int (-1))) (ab_G mi ml)))) :
    ab_W call ro 0 0 (ab_lk2 pl_X6_inVain) Q (14, [some (.ref 9), some (.long y1), none, some (.long y3), none, some (.int y5), none], [], 0, 0, ab_G mi ml) := by
  refine ab_wk 3 (f' := (if y5 < 42 then 21 else 83, [some (.ref 9), some (.long y1), none, some (.long y3), none, some (.int y5), none], [], 0, 0, (ab_G mi ml))) rfl ⟨trivial, trivial, trivial, trivial⟩ ?_
  refine ab_wi (fun c => ?_) (fun c => ?_)
  · have h := h.1 c
    refine ab_wk 4 (f' := (if (lg_cmp y3 0) = 0 then 83 else 27, [some (.ref 9), some (.long y1), none, some (.long y3), none, some (.int y5), none], [], 0, 0, (ab_G mi ml))) rfl ⟨trivial, trivial, trivial, trivial, trivial⟩ ?_
    refine ab_wi (fun c => ?_) (fun c => ?_)
    · have h := h.1 c
      exact ab_wr 2 rfl ⟨trivial, trivial⟩ h
    · have h := h.2 c
      obtain ⟨r3, mi1, ml2, hc, h⟩ := h
      refine ab_wc 7 (c := 243) (as := [.long ((y3 &&& (-y3)) - 1)]) (pc := 36) (ll := [some (.ref 9), some (.long y1), none, some (.long y3), none, some (.int y5), none]) (st := []) (c1 := 0) (s1 := 0) (g := (ab_G mi ml)) rfl ⟨trivial, trivial, trivial, trivial, trivial, trivial, trivial⟩ hc ?_
      obtain ⟨p0, p1, h⟩ := h
      refine ab_wk 19 (f' := (if (lg_cmp (((ml2 9 4) &&& (ml2 10 (r3).toNatClampNeg)) ||| ((ml2 9 5) &&& (ml2 11 (r3).toNatClampNeg))) 0) = 0 then 68 else 71, [some (.ref 9), some (.long y1), none, some (.long y3), none, some (.int y5), some (.int r3)], [], 0, 0, (ab_G mi1 ml2))) rfl ⟨trivial, trivial, trivial, trivial, trivial, trivial, p0, trivial, trivial, trivial, trivial, trivial, trivial, p1, trivial, trivial, trivial, trivial, trivial, trivial⟩ ?_
      refine ab_wi (fun c => ?_) (fun c => ?_)
      · have h := h.1 c
        exact ab_wr 2 rfl ⟨trivial, trivial⟩ h
      · have h := h.2 c
        exact ab_wk 8 (f' := (14, [some (.ref 9), some (.long y1), none, some (.long (y3 &&& (y3 - 1))), none, some (.int (y5 + 1)), some (.int r3)], [], 0, 0, (ab_G mi1 ml2))) rfl ⟨trivial, trivial, trivial, trivial, trivial, trivial, trivial, trivial, trivial⟩ (ab_drop h (ab_lrc _ (ab_lrc _ (ab_lrc _ (ab_lrc _ (ab_lrc _ (ab_lrc _ (ab_lrn _ ab_lr0))))))))
  · have h := h.2 c
    exact ab_wr 2 rfl ⟨trivial, trivial⟩ h
theorem vc_X6_meanSame_0 {call : Nat → List Value → ab_S → Option Value → ab_S → Prop} {ro : ab_E} {Q : Option Value → ab_S → Prop} (x1 : Int64) (x3 : Int64) (mi : Nat → Nat → Int32) (ml : Nat → Nat → Int64)
    (h : ∃ (mi1 : Nat → Nat → Int32) (ml2 : Nat → Nat → Int64), call 50 [.ref 9, .long x1] (ab_G mi ml) none (ab_G mi1 ml2) ∧ (∃ (mi3 : Nat → Nat → Int32) (ml4 : Nat → Nat → Int64), call 50 [.ref 9, .long x3] (ab_G mi1 ml2) none (ab_G mi3 ml4) ∧ ((((lg_cmp (ml2 9 4) (ml4 9 4)) = 0) → ((((lg_cmp (ml2 9 5) (ml4 9 5)) = 0) → (∃ (r7 : Int32) (mi5 : Nat → Nat → Int32) (ml6 : Nat → Nat → Int64), call 56 [.ref 9, .long x1, .long x3] (ab_G mi3 ml4) (some (.int r7)) (ab_G mi5 ml6) ∧ (((r7 = 0) → (Q (some (.int 0)) (ab_G mi5 ml6))) ∧ (¬ (r7 = 0) → (∃ (r10 : Int32) (mi8 : Nat → Nat → Int32) (ml9 : Nat → Nat → Int64), call 56 [.ref 9, .long x3, .long x1] (ab_G mi5 ml6) (some (.int r10)) (ab_G mi8 ml9) ∧ (((r10 = 0) → (Q (some (.int 0)) (ab_G mi8 ml9))) ∧ (¬ (r10 = 0) → (Q (some (.int 1)) (ab_G mi8 ml9))))))))) ∧ (¬ ((lg_cmp (ml2 9 5) (ml4 9 5)) = 0) → (Q (some (.int 0)) (ab_G mi3 ml4))))) ∧ (¬ ((lg_cmp (ml2 9 4) (ml4 9 4)) = 0) → (Q (some (.int 0)) (ab_G mi3 ml4)))))) :
    ab_W call ro 0 0 (ab_lk2 pl_X6_meanSame) Q (0, [some (.ref 9), some (.long x1), none, some (.long x3), none, none, none, none, none], [], 0, 0, ab_G mi ml) := by
  obtain ⟨mi1, ml2, hc, h⟩ := h
  refine ab_wc 3 (c := 50) (as := [.ref 9, .long x1]) (pc := 5) (ll := [some (.ref 9), some (.long x1), none, some (.long x3), none, none, none, none, none]) (st := []) (c1 := 0) (s1 := 0) (g := (ab_G mi ml)) rfl ⟨trivial, trivial, trivial⟩ hc ?_
  obtain ⟨mi3, ml4, hc, h⟩ := h
  refine ab_wc 9 (c := 50) (as := [.ref 9, .long x3]) (pc := 22) (ll := [some (.ref 9), some (.long x1), none, some (.long x3), none, some (.long (ml2 9 4)), none, some (.long (ml2 9 5)), none]) (st := []) (c1 := 0) (s1 := 0) (g := (ab_G mi1 ml2)) rfl ⟨trivial, trivial, trivial, trivial, trivial, trivial, trivial, trivial, trivial⟩ hc ?_
  refine ab_wk 5 (f' := (if (lg_cmp (ml2 9 4) (ml4 9 4)) = 0 then 32 else 64, [some (.ref 9), some (.long x1), none, some (.long x3), none, some (.long (ml2 9 4)), none, some (.long (ml2 9 5)), none], [], 0, 0, (ab_G mi3 ml4))) rfl ⟨trivial, trivial, trivial, trivial, trivial, trivial⟩ ?_
  refine ab_wi (fun c => ?_) (fun c => ?_)
  · have h := h.1 c
    refine ab_wk 5 (f' := (if (lg_cmp (ml2 9 5) (ml4 9 5)) = 0 then 42 else 64, [some (.ref 9), some (.long x1), none, some (.long x3), none, some (.long (ml2 9 4)), none, some (.long (ml2 9 5)), none], [], 0, 0, (ab_G mi3 ml4))) rfl ⟨trivial, trivial, trivial, trivial, trivial, trivial⟩ ?_
    refine ab_wi (fun c => ?_) (fun c => ?_)
    · have h := h.1 c
      obtain ⟨r7, mi5, ml6, hc, h⟩ := h
      refine ab_wc 4 (c := 56) (as := [.ref 9, .long x1, .long x3]) (pc := 48) (ll := [some (.ref 9), some (.long x1), none, some (.long x3), none, some (.long (ml2 9 4)), none, some (.long (ml2 9 5)), none]) (st := []) (c1 := 0) (s1 := 0) (g := (ab_G mi3 ml4)) rfl ⟨trivial, trivial, trivial, trivial⟩ hc ?_
      refine ab_wk 1 (f' := (if r7 = 0 then 64 else 51, [some (.ref 9), some (.long x1), none, some (.long x3), none, some (.long (ml2 9 4)), none, some (.long (ml2 9 5)), none], [], 0, 0, (ab_G mi5 ml6))) rfl ⟨trivial, trivial⟩ ?_
      refine ab_wi (fun c => ?_) (fun c => ?_)
      · have h := h.1 c
        exact ab_wr 2 rfl ⟨trivial, (Or.inl rfl)⟩ h
      · have h := h.2 c
        obtain ⟨r10, mi8, ml9, hc, h⟩ := h
        refine ab_wc 4 (c := 56) (as := [.ref 9, .long x3, .long x1]) (pc := 57) (ll := [some (.ref 9), some (.long x1), none, some (.long x3), none, some (.long (ml2 9 4)), none, some (.long (ml2 9 5)), none]) (st := []) (c1 := 0) (s1 := 0) (g := (ab_G mi5 ml6)) rfl ⟨trivial, trivial, trivial, trivial⟩ hc ?_
        refine ab_wk 1 (f' := (if r10 = 0 then 64 else 60, [some (.ref 9), some (.long x1), none, some (.long x3), none, some (.long (ml2 9 4)), none, some (.long (ml2 9 5)), none], [], 0, 0, (ab_G mi8 ml9))) rfl ⟨trivial, trivial⟩ ?_
        refine ab_wi (fun c => ?_) (fun c => ?_)
        · have h := h.1 c
          exact ab_wr 2 rfl ⟨trivial, (Or.inl rfl)⟩ h
        · have h := h.2 c
          exact ab_wr 3 rfl ⟨trivial, trivial, (Or.inr rfl)⟩ h
    · have h := h.2 c
      exact ab_wr 2 rfl ⟨trivial, (Or.inl rfl)⟩ h
  · have h := h.2 c
    exact ab_wr 2 rfl ⟨trivial, (Or.inl rfl)⟩ h
theorem vc_X6_hasMays_0 {call : Nat → List Value → ab_S → Option Value → ab_S → Prop} {ro : ab_E} {Q : Option Value → ab_S → Prop} (x1 : Int64) (x3 : Int64) (mi : Nat → Nat → Int32) (ml : Nat → Nat → Int64)
    (h : ab_W call ro 0 0 (ab_lk2 pl_X6_hasMays) Q (25, [some (.ref 9), some (.long x1), none, some (.long x3), none, some (.long ((x3 &&& (x1 ^^^ (-1))) &&& (ml 9 2))), none, some (.long (x1 &&& (ml 9 2))), none, some (.int 0), none, none], [], 0, 0, (ab_G mi ml))) :
    ab_W call ro 0 0 (ab_lk2 pl_X6_hasMays) Q (0, [some (.ref 9), some (.long x1), none, some (.long x3), none, none, none, none, none, none, none, none], [], 0, 0, ab_G mi ml) := by
  exact ab_wk 16 (f' := (25, [some (.ref 9), some (.long x1), none, some (.long x3), none, some (.long ((x3 &&& (x1 ^^^ (-1))) &&& (ml 9 2))), none, some (.long (x1 &&& (ml 9 2))), none, some (.int 0), none, none], [], 0, 0, (ab_G mi ml))) rfl ⟨trivial, trivial, trivial, trivial, trivial, trivial, trivial, trivial, trivial, trivial, trivial, trivial, trivial, trivial, trivial, trivial, trivial⟩ h
theorem vc_X6_hasMays_25 {call : Nat → List Value → ab_S → Option Value → ab_S → Prop} {ro : ab_E} {Q : Option Value → ab_S → Prop} (y1 : Int64) (y3 : Int64) (y5 : Int64) (y7 : Int64) (y9 : Int32) (mi : Nat → Nat → Int32) (ml : Nat → Nat → Int64)
    (h : ((y9 < 42) → ((((lg_cmp (y5 >>> ((y9).toInt64 &&& 63)) 0) = 0) → (Q (some (.int 1)) (ab_G mi ml))) ∧ (¬ ((lg_cmp (y5 >>> ((y9).toInt64 &&& 63)) 0) = 0) → ((((lg_cmp ((y5 >>> ((y9).toInt64 &&& 63)) &&& 1) 0) = 0) → (ab_W call ro 0 0 (ab_lk2 pl_X6_hasMays) Q (64, [some (.ref 9), some (.long y1), none, some (.long y3), none, some (.long y5), none, some (.long y7), none, some (.int y9), some (.int 1), some (.int 0)], [], 0, 0, (ab_G mi ml)))) ∧ (¬ ((lg_cmp ((y5 >>> ((y9).toInt64 &&& 63)) &&& 1) 0) = 0) → (ab_W call ro 0 0 (ab_lk2 pl_X6_hasMays) Q (64, [some (.ref 9), some (.long y1), none, some (.long y3), none, some (.long y5), none, some (.long y7), none, some (.int y9), some (.int 0), some (.int 0)], [], 0, 0, (ab_G mi ml)))))))) ∧ (¬ (y9 < 42) → (Q (some (.int 1)) (ab_G mi ml)))) :
    ab_W call ro 0 0 (ab_lk2 pl_X6_hasMays) Q (25, [some (.ref 9), some (.long y1), none, some (.long y3), none, some (.long y5), none, some (.long y7), none, some (.int y9), none, none], [], 0, 0, ab_G mi ml) := by
  refine ab_wk 3 (f' := (if y9 < 42 then 32 else 150, [some (.ref 9), some (.long y1), none, some (.long y3), none, some (.long y5), none, some (.long y7), none, some (.int y9), none, none], [], 0, 0, (ab_G mi ml))) rfl ⟨trivial, trivial, trivial, trivial⟩ ?_
  refine ab_wi (fun c => ?_) (fun c => ?_)
  · have h := h.1 c
    refine ab_wk 6 (f' := (if (lg_cmp (y5 >>> ((y9).toInt64 &&& 63)) 0) = 0 then 150 else 42, [some (.ref 9), some (.long y1), none, some (.long y3), none, some (.long y5), none, some (.long y7), none, some (.int y9), none, none], [], 0, 0, (ab_G mi ml))) rfl ⟨trivial, trivial, trivial, trivial, trivial, trivial, trivial⟩ ?_
    refine ab_wi (fun c => ?_) (fun c => ?_)
    · have h := h.1 c
      exact ab_wr 2 rfl ⟨trivial, (Or.inr rfl)⟩ h
    · have h := h.2 c
      refine ab_wk 8 (f' := (if (lg_cmp ((y5 >>> ((y9).toInt64 &&& 63)) &&& 1) 0) = 0 then 54 else 58, [some (.ref 9), some (.long y1), none, some (.long y3), none, some (.long y5), none, some (.long y7), none, some (.int y9), none, none], [], 0, 0, (ab_G mi ml))) rfl ⟨trivial, trivial, trivial, trivial, trivial, trivial, trivial, trivial, trivial⟩ ?_
      refine ab_wi (fun c => ?_) (fun c => ?_)
      · have h := h.1 c
        exact ab_wk 5 (f' := (64, [some (.ref 9), some (.long y1), none, some (.long y3), none, some (.long y5), none, some (.long y7), none, some (.int y9), some (.int 1), some (.int 0)], [], 0, 0, (ab_G mi ml))) rfl ⟨trivial, trivial, trivial, trivial, trivial, trivial⟩ h
      · have h := h.2 c
        exact ab_wk 4 (f' := (64, [some (.ref 9), some (.long y1), none, some (.long y3), none, some (.long y5), none, some (.long y7), none, some (.int y9), some (.int 0), some (.int 0)], [], 0, 0, (ab_G mi ml))) rfl ⟨trivial, trivial, trivial, trivial, trivial⟩ h
  · have h := h.2 c
    exact ab_wr 2 rfl ⟨trivial, (Or.inr rfl)⟩ h
theorem vc_X6_hasMays_64 {call : Nat → List Value → ab_S → Option Value → ab_S → Prop} {ro : ab_E} {Q : Option Value → ab_S → Prop} (y1 : Int64) (y3 : Int64) (y5 : Int64) (y7 : Int64) (y9 : Int32) (y10 : Int32) (y11 : Int32) (mi : Nat → Nat → Int32) (ml : Nat → Nat → Int64)
    (h : ((y11 < 42) → (((y10 = 0) → ((((lg_cmp ((y7 >>> ((y11).toInt64 &&& 63)) &&& 1) 0) = 0) → (ab_W call ro 0 0 (ab_lk2 pl_X6_hasMays) Q (64, [some (.ref 9), some (.long y1), none, some (.long y3), none, some (.long y5), none, some (.long y7), none, some (.int y9), some (.int 0), some (.int (y11 + 1))], [], 0, 0, (ab_G mi ml)))) ∧ (¬ ((lg_cmp ((y7 >>> ((y11).toInt64 &&& 63)) &&& 1) 0) = 0) → (vp_in y9 42 ∧ (vp_in y11 42 ∧ ((((lg_cmp (ml 10 (y9).toNatClampNeg) (ml 10 (y11).toNatClampNeg)) = 0) → (vp_in y9 42 ∧ (vp_in y11 42 ∧ ((((lg_cmp (ml 11 (y9).toNatClampNeg) (ml 11 (y11).toNatClampNeg)) = 0) → (ab_W call ro 0 0 (ab_lk2 pl_X6_hasMays) Q (64, [some (.ref 9), some (.long y1), none, some (.long y3), none, some (.long y5), none, some (.long y7), none, some (.int y9), some (.int 1), some (.int (y11 + 1))], [], 0, 0, (ab_G mi ml)))) ∧ (¬ ((lg_cmp (ml 11 (y9).toNatClampNeg) (ml 11 (y11).toNatClampNeg)) = 0) → (ab_W call ro 0 0 (ab_lk2 pl_X6_hasMays) Q (64, [some (.ref 9), some (.long y1), none, some (.long y3), none, some (.long y5), none, some (.long y7), none, some (.int y9), some (.int 0), some (.int (y11 + 1))], [], 0, 0, (ab_G mi ml)))))))) ∧ (¬ ((lg_cmp (ml 10 (y9).toNatClampNeg) (ml 10 (y11).toNatClampNeg)) = 0) → (ab_W call ro 0 0 (ab_lk2 pl_X6_hasMays) Q (64, [some (.ref 9), some (.long y1), none, some (.long y3), none, some (.long y5), none, some (.long y7), none, some (.int y9), some (.int 0), some (.int (y11 + 1))], [], 0, 0, (ab_G mi ml)))))))))) ∧ (¬ (y10 = 0) → (((y10 = 0) → (Q (some (.int 0)) (ab_G mi ml))) ∧ (¬ (y10 = 0) → (ab_W call ro 0 0 (ab_lk2 pl_X6_hasMays) Q (25, [some (.ref 9), some (.long y1), none, some (.long y3), none, some (.long y5), none, some (.long y7), none, some (.int (y9 + 1)), none, none], [], 0, 0, (ab_G mi ml)))))))) ∧ (¬ (y11 < 42) → (((y10 = 0) → (Q (some (.int 0)) (ab_G mi ml))) ∧ (¬ (y10 = 0) → (ab_W call ro 0 0 (ab_lk2 pl_X6_hasMays) Q (25, [some (.ref 9), some (.long y1), none, some (.long y3), none, some (.long y5), none, some (.long y7), none, some (.int (y9 + 1)), none, none], [], 0, 0, (ab_G mi ml))))))) :
    ab_W call ro 0 0 (ab_lk2 pl_X6_hasMays) Q (64, [some (.ref 9), some (.long y1), none, some (.long y3), none, some (.long y5), none, some (.long y7), none, some (.int y9), some (.int y10), some (.int y11)], [], 0, 0, ab_G mi ml) := by
  refine ab_wk 3 (f' := (if y11 < 42 then 71 else 137, [some (.ref 9), some (.long y1), none, some (.long y3), none, some (.long y5), none, some (.long y7), none, some (.int y9), some (.int y10), some (.int y11)], [], 0, 0, (ab_G mi ml))) rfl ⟨trivial, trivial, trivial, trivial⟩ ?_
  refine ab_wi (fun c => ?_) (fun c => ?_)
  · have h := h.1 c
    refine ab_wk 2 (f' := (if y10 = 0 then 76 else 137, [some (.ref 9), some (.long y1), none, some (.long y3), none, some (.long y5), none, some (.long y7), none, some (.int y9), some (.int y10), some (.int y11)], [], 0, 0, (ab_G mi ml))) rfl ⟨trivial, trivial, trivial⟩ ?_
    refine ab_wi (fun c => ?_) (fun c => ?_)
    · have h := h.1 c
      refine ab_wk 8 (f' := (if (lg_cmp ((y7 >>> ((y11).toInt64 &&& 63)) &&& 1) 0) = 0 then 128 else 88, [some (.ref 9), some (.long y1), none, some (.long y3), none, some (.long y5), none, some (.long y7), none, some (.int y9), some (.int y10), some (.int y11)], [], 0, 0, (ab_G mi ml))) rfl ⟨trivial, trivial, trivial, trivial, trivial, trivial, trivial, trivial, trivial⟩ ?_
      refine ab_wi (fun c => ?_) (fun c => ?_)
      · have h := h.1 c
        exact ab_wk 4 (f' := (64, [some (.ref 9), some (.long y1), none, some (.long y3), none, some (.long y5), none, some (.long y7), none, some (.int y9), some (.int 0), some (.int (y11 + 1))], [], 0, 0, (ab_G mi ml))) rfl ⟨trivial, trivial, trivial, trivial, trivial⟩ h
      · have h := h.2 c
        obtain ⟨p0, p1, h⟩ := h
        refine ab_wk 10 (f' := (if (lg_cmp (ml 10 (y9).toNatClampNeg) (ml 10 (y11).toNatClampNeg)) = 0 then 106 else 128, [some (.ref 9), some (.long y1), none, some (.long y3), none, some (.long y5), none, some (.long y7), none, some (.int y9), some (.int y10), some (.int y11)], [], 0, 0, (ab_G mi ml))) rfl ⟨trivial, trivial, trivial, p0, trivial, trivial, trivial, p1, trivial, trivial, trivial⟩ ?_
        refine ab_wi (fun c => ?_) (fun c => ?_)
        · have h := h.1 c
          obtain ⟨p0, p1, h⟩ := h
          refine ab_wk 10 (f' := (if (lg_cmp (ml 11 (y9).toNatClampNeg) (ml 11 (y11).toNatClampNeg)) = 0 then 124 else 128, [some (.ref 9), some (.long y1), none, some (.long y3), none, some (.long y5), none, some (.long y7), none, some (.int y9), some (.int y10), some (.int y11)], [], 0, 0, (ab_G mi ml))) rfl ⟨trivial, trivial, trivial, p0, trivial, trivial, trivial, p1, trivial, trivial, trivial⟩ ?_
          refine ab_wi (fun c => ?_) (fun c => ?_)
          · have h := h.1 c
            exact ab_wk 5 (f' := (64, [some (.ref 9), some (.long y1), none, some (.long y3), none, some (.long y5), none, some (.long y7), none, some (.int y9), some (.int 1), some (.int (y11 + 1))], [], 0, 0, (ab_G mi ml))) rfl ⟨trivial, trivial, trivial, trivial, trivial, trivial⟩ h
          · have h := h.2 c
            exact ab_wk 4 (f' := (64, [some (.ref 9), some (.long y1), none, some (.long y3), none, some (.long y5), none, some (.long y7), none, some (.int y9), some (.int 0), some (.int (y11 + 1))], [], 0, 0, (ab_G mi ml))) rfl ⟨trivial, trivial, trivial, trivial, trivial⟩ h
        · have h := h.2 c
          exact ab_wk 4 (f' := (64, [some (.ref 9), some (.long y1), none, some (.long y3), none, some (.long y5), none, some (.long y7), none, some (.int y9), some (.int 0), some (.int (y11 + 1))], [], 0, 0, (ab_G mi ml))) rfl ⟨trivial, trivial, trivial, trivial, trivial⟩ h
    · have h := h.2 c
      refine ab_wk 2 (f' := (if y10 = 0 then 142 else 144, [some (.ref 9), some (.long y1), none, some (.long y3), none, some (.long y5), none, some (.long y7), none, some (.int y9), some (.int y10), some (.int y11)], [], 0, 0, (ab_G mi ml))) rfl ⟨trivial, trivial, trivial⟩ ?_
      refine ab_wi (fun c => ?_) (fun c => ?_)
      · have h := h.1 c
        exact ab_wr 2 rfl ⟨trivial, (Or.inl rfl)⟩ h
      · have h := h.2 c
        exact ab_wk 2 (f' := (25, [some (.ref 9), some (.long y1), none, some (.long y3), none, some (.long y5), none, some (.long y7), none, some (.int (y9 + 1)), some (.int y10), some (.int y11)], [], 0, 0, (ab_G mi ml))) rfl ⟨trivial, trivial, trivial⟩ (ab_drop h (ab_lrc _ (ab_lrc _ (ab_lrc _ (ab_lrc _ (ab_lrc _ (ab_lrc _ (ab_lrc _ (ab_lrc _ (ab_lrc _ (ab_lrc _ (ab_lrn _ (ab_lrn _ ab_lr0)))))))))))))
  · have h := h.2 c
    refine ab_wk 2 (f' := (if y10 = 0 then 142 else 144, [some (.ref 9), some (.long y1), none, some (.long y3), none, some (.long y5), none, some (.long y7), none, some (.int y9), some (.int y10), some (.int y11)], [], 0, 0, (ab_G mi ml))) rfl ⟨trivial, trivial, trivial⟩ ?_
    refine ab_wi (fun c => ?_) (fun c => ?_)
    · have h := h.1 c
      exact ab_wr 2 rfl ⟨trivial, (Or.inl rfl)⟩ h
    · have h := h.2 c
      exact ab_wk 2 (f' := (25, [some (.ref 9), some (.long y1), none, some (.long y3), none, some (.long y5), none, some (.long y7), none, some (.int (y9 + 1)), some (.int y10), some (.int y11)], [], 0, 0, (ab_G mi ml))) rfl ⟨trivial, trivial, trivial⟩ (ab_drop h (ab_lrc _ (ab_lrc _ (ab_lrc _ (ab_lrc _ (ab_lrc _ (ab_lrc _ (ab_lrc _ (ab_lrc _ (ab_lrc _ (ab_lrc _ (ab_lrn _ (ab_lrn _ ab_lr0)))))))))))))
theorem vc_X6_alike_0 {call : Nat → List Value → ab_S → Option Value → ab_S → Prop} {ro : ab_E} {Q : Option Value → ab_S → Prop} (x1 : Int32) (x2 : Int32) (mi : Nat → Nat → Int32) (ml : Nat → Nat → Int64)
    (h : ∃ (r3 : Int32) (mi1 : Nat → Nat → Int32) (ml2 : Nat → Nat → Int64), call 49 [.ref 9, .int x1] (ab_G mi ml) (some (.int r3)) (ab_G mi1 ml2) ∧ (∃ (r6 : Int32) (mi4 : Nat → Nat → Int32) (ml5 : Nat → Nat → Int64), call 49 [.ref 9, .int x2] (ab_G mi1 ml2) (some (.int r6)) (ab_G mi4 ml5) ∧ (((r3 = r6) → (vp_in x1 42 ∧ (vp_in x2 42 ∧ ((((lg_cmp (ml5 10 (x1).toNatClampNeg) (ml5 10 (x2).toNatClampNeg)) = 0) → (vp_in x1 42 ∧ (vp_in x2 42 ∧ ((((lg_cmp (ml5 11 (x1).toNatClampNeg) (ml5 11 (x2).toNatClampNeg)) = 0) → (Q (some (.int 1)) (ab_G mi4 ml5))) ∧ (¬ ((lg_cmp (ml5 11 (x1).toNatClampNeg) (ml5 11 (x2).toNatClampNeg)) = 0) → (Q (some (.int 0)) (ab_G mi4 ml5))))))) ∧ (¬ ((lg_cmp (ml5 10 (x1).toNatClampNeg) (ml5 10 (x2).toNatClampNeg)) = 0) → (Q (some (.int 0)) (ab_G mi4 ml5))))))) ∧ (¬ (r3 = r6) → (Q (some (.int 0)) (ab_G mi4 ml5)))))) :
    ab_W call ro 0 0 (ab_lk2 pl_X6_alike) Q (0, [some (.ref 9), some (.int x1), some (.int x2)], [], 0, 0, ab_G mi ml) := by
  obtain ⟨r3, mi1, ml2, hc, h⟩ := h
  refine ab_wc 3 (c := 49) (as := [.ref 9, .int x1]) (pc := 5) (ll := [some (.ref 9), some (.int x1), some (.int x2)]) (st := []) (c1 := 0) (s1 := 0) (g := (ab_G mi ml)) rfl ⟨trivial, trivial, trivial⟩ hc ?_
  obtain ⟨r6, mi4, ml5, hc, h⟩ := h
  refine ab_wc 3 (c := 49) (as := [.ref 9, .int x2]) (pc := 10) (ll := [some (.ref 9), some (.int x1), some (.int x2)]) (st := [.int r3]) (c1 := 0) (s1 := 0) (g := (ab_G mi1 ml2)) rfl ⟨trivial, trivial, trivial⟩ hc ?_
  refine ab_wk 1 (f' := (if r3 = r6 then 13 else 49, [some (.ref 9), some (.int x1), some (.int x2)], [], 0, 0, (ab_G mi4 ml5))) rfl ⟨trivial, trivial⟩ ?_
  refine ab_wi (fun c => ?_) (fun c => ?_)
  · have h := h.1 c
    obtain ⟨p0, p1, h⟩ := h
    refine ab_wk 10 (f' := (if (lg_cmp (ml5 10 (x1).toNatClampNeg) (ml5 10 (x2).toNatClampNeg)) = 0 then 29 else 49, [some (.ref 9), some (.int x1), some (.int x2)], [], 0, 0, (ab_G mi4 ml5))) rfl ⟨trivial, trivial, trivial, p0, trivial, trivial, trivial, p1, trivial, trivial, trivial⟩ ?_
    refine ab_wi (fun c => ?_) (fun c => ?_)
    · have h := h.1 c
      obtain ⟨p0, p1, h⟩ := h
      refine ab_wk 10 (f' := (if (lg_cmp (ml5 11 (x1).toNatClampNeg) (ml5 11 (x2).toNatClampNeg)) = 0 then 45 else 49, [some (.ref 9), some (.int x1), some (.int x2)], [], 0, 0, (ab_G mi4 ml5))) rfl ⟨trivial, trivial, trivial, p0, trivial, trivial, trivial, p1, trivial, trivial, trivial⟩ ?_
      refine ab_wi (fun c => ?_) (fun c => ?_)
      · have h := h.1 c
        exact ab_wr 3 rfl ⟨trivial, trivial, (Or.inr rfl)⟩ h
      · have h := h.2 c
        exact ab_wr 2 rfl ⟨trivial, (Or.inl rfl)⟩ h
    · have h := h.2 c
      exact ab_wr 2 rfl ⟨trivial, (Or.inl rfl)⟩ h
  · have h := h.2 c
    exact ab_wr 2 rfl ⟨trivial, (Or.inl rfl)⟩ h
theorem vc_X6_fewestAlike_0 {call : Nat → List Value → ab_S → Option Value → ab_S → Prop} {ro : ab_E} {Q : Option Value → ab_S → Prop}  (mi : Nat → Nat → Int32) (ml : Nat → Nat → Int64)
    (h : ∃ (r3 : Int32) (mi1 : Nat → Nat → Int32) (ml2 : Nat → Nat → Int64), call 59 [.ref 9] (ab_G mi ml) (some (.int r3)) (ab_G mi1 ml2) ∧ (∃ (r6 : Int64) (mi4 : Nat → Nat → Int32) (ml5 : Nat → Nat → Int64), call 48 [.ref 9] (ab_G mi1 ml2) (some (.long r6)) (ab_G mi4 ml5) ∧ (ab_W call ro 0 0 (ab_lk2 pl_X6_fewestAlike) Q (13, [some (.ref 9), some (.int r3), some (.int (r6).toInt32), some (.int r3), none], [], 0, 0, (ab_G mi4 ml5))))) :
    ab_W call ro 0 0 (ab_lk2 pl_X6_fewestAlike) Q (0, [some (.ref 9), none, none, none, none], [], 0, 0, ab_G mi ml) := by
  obtain ⟨r3, mi1, ml2, hc, h⟩ := h
  refine ab_wc 2 (c := 59) (as := [.ref 9]) (pc := 4) (ll := [some (.ref 9), none, none, none, none]) (st := []) (c1 := 0) (s1 := 0) (g := (ab_G mi ml)) rfl ⟨trivial, trivial⟩ hc ?_
  obtain ⟨r6, mi4, ml5, hc, h⟩ := h
  refine ab_wc 3 (c := 48) (as := [.ref 9]) (pc := 9) (ll := [some (.ref 9), some (.int r3), none, none, none]) (st := []) (c1 := 0) (s1 := 0) (g := (ab_G mi1 ml2)) rfl ⟨trivial, trivial, trivial⟩ hc ?_
  exact ab_wk 4 (f' := (13, [some (.ref 9), some (.int r3), some (.int (r6).toInt32), some (.int r3), none], [], 0, 0, (ab_G mi4 ml5))) rfl ⟨trivial, trivial, trivial, trivial, trivial⟩ h
theorem vc_X6_fewestAlike_13 {call : Nat → List Value → ab_S → Option Value → ab_S → Prop} {ro : ab_E} {Q : Option Value → ab_S → Prop} (y1 : Int32) (y2 : Int32) (y3 : Int32) (mi : Nat → Nat → Int32) (ml : Nat → Nat → Int64)
    (h : ((y3 < ((1 : Int32) <<< ((mi 9 3) &&& 31))) → ((((y3 &&& y1) = y1) → (∃ (r9 : Int32) (mi7 : Nat → Nat → Int32) (ml8 : Nat → Nat → Int64), call 242 [.int y3] (ab_G mi ml) (some (.int r9)) (ab_G mi7 ml8) ∧ (∃ (r12 : Int32) (mi10 : Nat → Nat → Int32) (ml11 : Nat → Nat → Int64), call 242 [.int y2] (ab_G mi7 ml8) (some (.int r12)) (ab_G mi10 ml11) ∧ (((r9 < r12) → (∃ (r15 : Int64) (mi13 : Nat → Nat → Int32) (ml14 : Nat → Nat → Int64), call 48 [.ref 9] (ab_G mi10 ml11) (some (.long r15)) (ab_G mi13 ml14) ∧ (∃ (r18 : Int32) (mi16 : Nat → Nat → Int32) (ml17 : Nat → Nat → Int64), call 55 [.ref 9, .long (y3 : Int32).toInt64, .long r15] (ab_G mi13 ml14) (some (.int r18)) (ab_G mi16 ml17) ∧ (((r18 = 0) → (ab_W call ro 0 0 (ab_lk2 pl_X6_fewestAlike) Q (13, [some (.ref 9), some (.int y1), some (.int y2), some (.int (y3 + 1)), none], [], 0, 0, (ab_G mi16 ml17)))) ∧ (¬ (r18 = 0) → (ab_W call ro 0 0 (ab_lk2 pl_X6_fewestAlike) Q (13, [some (.ref 9), some (.int y1), some (.int y3), some (.int (y3 + 1)), none], [], 0, 0, (ab_G mi16 ml17)))))))) ∧ (¬ (r9 < r12) → (ab_W call ro 0 0 (ab_lk2 pl_X6_fewestAlike) Q (13, [some (.ref 9), some (.int y1), some (.int y2), some (.int (y3 + 1)), none], [], 0, 0, (ab_G mi10 ml11)))))))) ∧ (¬ ((y3 &&& y1) = y1) → (ab_W call ro 0 0 (ab_lk2 pl_X6_fewestAlike) Q (13, [some (.ref 9), some (.int y1), some (.int y2), some (.int (y3 + 1)), none], [], 0, 0, (ab_G mi ml)))))) ∧ (¬ (y3 < ((1 : Int32) <<< ((mi 9 3) &&& 31))) → (Q (some (.int y2)) (ab_G mi ml)))) :
    ab_W call ro 0 0 (ab_lk2 pl_X6_fewestAlike) Q (13, [some (.ref 9), some (.int y1), some (.int y2), some (.int y3), none], [], 0, 0, ab_G mi ml) := by
  refine ab_wk 6 (f' := (if y3 < ((1 : Int32) <<< ((mi 9 3) &&& 31)) then 23 else 74, [some (.ref 9), some (.int y1), some (.int y2), some (.int y3), none], [], 0, 0, (ab_G mi ml))) rfl ⟨trivial, trivial, trivial, trivial, trivial, trivial, trivial⟩ ?_
  refine ab_wi (fun c => ?_) (fun c => ?_)
  · have h := h.1 c
    refine ab_wk 5 (f' := (if (y3 &&& y1) = y1 then 30 else 45, [some (.ref 9), some (.int y1), some (.int y2), some (.int y3), none], [], 0, 0, (ab_G mi ml))) rfl ⟨trivial, trivial, trivial, trivial, trivial, trivial⟩ ?_
    refine ab_wi (fun c => ?_) (fun c => ?_)
    · have h := h.1 c
      obtain ⟨r9, mi7, ml8, hc, h⟩ := h
      refine ab_wc 2 (c := 242) (as := [.int y3]) (pc := 34) (ll := [some (.ref 9), some (.int y1), some (.int y2), some (.int y3), none]) (st := []) (c1 := 0) (s1 := 0) (g := (ab_G mi ml)) rfl ⟨trivial, trivial⟩ hc ?_
      obtain ⟨r12, mi10, ml11, hc, h⟩ := h
      refine ab_wc 2 (c := 242) (as := [.int y2]) (pc := 38) (ll := [some (.ref 9), some (.int y1), some (.int y2), some (.int y3), none]) (st := [.int r9]) (c1 := 0) (s1 := 0) (g := (ab_G mi7 ml8)) rfl ⟨trivial, trivial⟩ hc ?_
      refine ab_wk 1 (f' := (if r9 < r12 then 41 else 45, [some (.ref 9), some (.int y1), some (.int y2), some (.int y3), none], [], 0, 0, (ab_G mi10 ml11))) rfl ⟨trivial, trivial⟩ ?_
      refine ab_wi (fun c => ?_) (fun c => ?_)
      · have h := h.1 c
        refine ab_wk 5 (f' := (if (1 : Int32) = 0 then 68 else 53, [some (.ref 9), some (.int y1), some (.int y2), some (.int y3), some (.int 1)], [], 0, 0, (ab_G mi10 ml11))) rfl ⟨trivial, trivial, trivial, trivial, trivial, trivial⟩ ?_
        refine ab_wif (c := ((1 : Int32) = 0)) (by decide) ?_
        obtain ⟨r15, mi13, ml14, hc, h⟩ := h
        refine ab_wc 5 (c := 48) (as := [.ref 9]) (pc := 60) (ll := [some (.ref 9), some (.int y1), some (.int y2), some (.int y3), some (.int 1)]) (st := [.long (y3 : Int32).toInt64, .ref 9]) (c1 := 0) (s1 := 0) (g := (ab_G mi10 ml11)) rfl ⟨trivial, trivial, trivial, trivial, trivial⟩ hc ?_
        obtain ⟨r18, mi16, ml17, hc, h⟩ := h
        refine ab_wc 1 (c := 55) (as := [.ref 9, .long (y3 : Int32).toInt64, .long r15]) (pc := 63) (ll := [some (.ref 9), some (.int y1), some (.int y2), some (.int y3), some (.int 1)]) (st := []) (c1 := 0) (s1 := 0) (g := (ab_G mi13 ml14)) rfl trivial hc ?_
        refine ab_wk 1 (f' := (if r18 = 0 then 68 else 66, [some (.ref 9), some (.int y1), some (.int y2), some (.int y3), some (.int 1)], [], 0, 0, (ab_G mi16 ml17))) rfl ⟨trivial, trivial⟩ ?_
        refine ab_wi (fun c => ?_) (fun c => ?_)
        · have h := h.1 c
          exact ab_wk 2 (f' := (13, [some (.ref 9), some (.int y1), some (.int y2), some (.int (y3 + 1)), some (.int 1)], [], 0, 0, (ab_G mi16 ml17))) rfl ⟨trivial, trivial, trivial⟩ (ab_drop h (ab_lrc _ (ab_lrc _ (ab_lrc _ (ab_lrc _ (ab_lrn _ ab_lr0))))))
        · have h := h.2 c
          exact ab_wk 4 (f' := (13, [some (.ref 9), some (.int y1), some (.int y3), some (.int (y3 + 1)), some (.int 1)], [], 0, 0, (ab_G mi16 ml17))) rfl ⟨trivial, trivial, trivial, trivial, trivial⟩ (ab_drop h (ab_lrc _ (ab_lrc _ (ab_lrc _ (ab_lrc _ (ab_lrn _ ab_lr0))))))
      · have h := h.2 c
        refine ab_wk 4 (f' := (if (0 : Int32) = 0 then 68 else 53, [some (.ref 9), some (.int y1), some (.int y2), some (.int y3), some (.int 0)], [], 0, 0, (ab_G mi10 ml11))) rfl ⟨trivial, trivial, trivial, trivial, trivial⟩ ?_
        refine ab_wit (c := ((0 : Int32) = 0)) (by decide) ?_
        exact ab_wk 2 (f' := (13, [some (.ref 9), some (.int y1), some (.int y2), some (.int (y3 + 1)), some (.int 0)], [], 0, 0, (ab_G mi10 ml11))) rfl ⟨trivial, trivial, trivial⟩ (ab_drop h (ab_lrc _ (ab_lrc _ (ab_lrc _ (ab_lrc _ (ab_lrn _ ab_lr0))))))
    · have h := h.2 c
      refine ab_wk 4 (f' := (if (0 : Int32) = 0 then 68 else 53, [some (.ref 9), some (.int y1), some (.int y2), some (.int y3), some (.int 0)], [], 0, 0, (ab_G mi ml))) rfl ⟨trivial, trivial, trivial, trivial, trivial⟩ ?_
      refine ab_wit (c := ((0 : Int32) = 0)) (by decide) ?_
      exact ab_wk 2 (f' := (13, [some (.ref 9), some (.int y1), some (.int y2), some (.int (y3 + 1)), some (.int 0)], [], 0, 0, (ab_G mi ml))) rfl ⟨trivial, trivial, trivial⟩ (ab_drop h (ab_lrc _ (ab_lrc _ (ab_lrc _ (ab_lrc _ (ab_lrn _ ab_lr0))))))
  · have h := h.2 c
    exact ab_wr 2 rfl ⟨trivial, trivial⟩ h
theorem vc_X6_neededLines_0 {call : Nat → List Value → ab_S → Option Value → ab_S → Prop} {ro : ab_E} {Q : Option Value → ab_S → Prop}  (mi : Nat → Nat → Int32) (ml : Nat → Nat → Int64)
    (h : ab_W call ro 0 0 (ab_lk2 pl_X6_neededLines) Q (4, [some (.ref 9), some (.int 0), some (.int 0)], [], 0, 0, (ab_G mi ml))) :
    ab_W call ro 0 0 (ab_lk2 pl_X6_neededLines) Q (0, [some (.ref 9), none, none], [], 0, 0, ab_G mi ml) := by
  exact ab_wk 4 (f' := (4, [some (.ref 9), some (.int 0), some (.int 0)], [], 0, 0, (ab_G mi ml))) rfl ⟨trivial, trivial, trivial, trivial, trivial⟩ h
theorem vc_X6_neededLines_4 {call : Nat → List Value → ab_S → Option Value → ab_S → Prop} {ro : ab_E} {Q : Option Value → ab_S → Prop} (y1 : Int32) (y2 : Int32) (mi : Nat → Nat → Int32) (ml : Nat → Nat → Int64)
    (h : ((y2 < (mi 9 3)) → (∃ (r3 : Int32) (mi1 : Nat → Nat → Int32) (ml2 : Nat → Nat → Int64), call 60 [.ref 9, .int y2] (ab_G mi ml) (some (.int r3)) (ab_G mi1 ml2) ∧ (((r3 = 0) → (ab_W call ro 0 0 (ab_lk2 pl_X6_neededLines) Q (4, [some (.ref 9), some (.int (y1 ||| ((1 : Int32) <<< (y2 &&& 31)))), some (.int (y2 + 1))], [], 0, 0, (ab_G mi1 ml2)))) ∧ (¬ (r3 = 0) → (ab_W call ro 0 0 (ab_lk2 pl_X6_neededLines) Q (4, [some (.ref 9), some (.int y1), some (.int (y2 + 1))], [], 0, 0, (ab_G mi1 ml2))))))) ∧ (¬ (y2 < (mi 9 3)) → (Q (some (.int y1)) (ab_G mi ml)))) :
    ab_W call ro 0 0 (ab_lk2 pl_X6_neededLines) Q (4, [some (.ref 9), some (.int y1), some (.int y2)], [], 0, 0, ab_G mi ml) := by
  refine ab_wk 4 (f' := (if y2 < (mi 9 3) then 12 else 32, [some (.ref 9), some (.int y1), some (.int y2)], [], 0, 0, (ab_G mi ml))) rfl ⟨trivial, trivial, trivial, trivial, trivial⟩ ?_
  refine ab_wi (fun c => ?_) (fun c => ?_)
  · have h := h.1 c
    obtain ⟨r3, mi1, ml2, hc, h⟩ := h
    refine ab_wc 3 (c := 60) (as := [.ref 9, .int y2]) (pc := 17) (ll := [some (.ref 9), some (.int y1), some (.int y2)]) (st := []) (c1 := 0) (s1 := 0) (g := (ab_G mi ml)) rfl ⟨trivial, trivial, trivial⟩ hc ?_
    refine ab_wk 1 (f' := (if r3 = 0 then 20 else 26, [some (.ref 9), some (.int y1), some (.int y2)], [], 0, 0, (ab_G mi1 ml2))) rfl ⟨trivial, trivial⟩ ?_
    refine ab_wi (fun c => ?_) (fun c => ?_)
    · have h := h.1 c
      exact ab_wk 8 (f' := (4, [some (.ref 9), some (.int (y1 ||| ((1 : Int32) <<< (y2 &&& 31)))), some (.int (y2 + 1))], [], 0, 0, (ab_G mi1 ml2))) rfl ⟨trivial, trivial, trivial, trivial, trivial, trivial, trivial, trivial, trivial⟩ h
    · have h := h.2 c
      exact ab_wk 2 (f' := (4, [some (.ref 9), some (.int y1), some (.int (y2 + 1))], [], 0, 0, (ab_G mi1 ml2))) rfl ⟨trivial, trivial, trivial⟩ h
  · have h := h.2 c
    exact ab_wr 2 rfl ⟨trivial, trivial⟩ h
theorem vc_X6_isIdle_0 {call : Nat → List Value → ab_S → Option Value → ab_S → Prop} {ro : ab_E} {Q : Option Value → ab_S → Prop} (x1 : Int32) (mi : Nat → Nat → Int32) (ml : Nat → Nat → Int64)
    (h : ∃ (r3 : Int64) (mi1 : Nat → Nat → Int32) (ml2 : Nat → Nat → Int64), call 48 [.ref 9] (ab_G mi ml) (some (.long r3)) (ab_G mi1 ml2) ∧ (∃ (r6 : Int64) (mi4 : Nat → Nat → Int32) (ml5 : Nat → Nat → Int64), call 48 [.ref 9] (ab_G mi1 ml2) (some (.long r6)) (ab_G mi4 ml5) ∧ (∃ (r9 : Int32) (mi7 : Nat → Nat → Int32) (ml8 : Nat → Nat → Int64), call 55 [.ref 9, .long (r3 &&& (((1 : Int64) <<< ((x1).toInt64 &&& 63)) ^^^ (-1))), .long r6] (ab_G mi4 ml5) (some (.int r9)) (ab_G mi7 ml8) ∧ ((r9 = 0 ∨ r9 = 1) ∧ (Q (some (.int r9)) (ab_G mi7 ml8)))))) :
    ab_W call ro 0 0 (ab_lk2 pl_X6_isIdle) Q (0, [some (.ref 9), some (.int x1)], [], 0, 0, ab_G mi ml) := by
  obtain ⟨r3, mi1, ml2, hc, h⟩ := h
  refine ab_wc 3 (c := 48) (as := [.ref 9]) (pc := 5) (ll := [some (.ref 9), some (.int x1)]) (st := [.ref 9]) (c1 := 0) (s1 := 0) (g := (ab_G mi ml)) rfl ⟨trivial, trivial, trivial⟩ hc ?_
  obtain ⟨r6, mi4, ml5, hc, h⟩ := h
  refine ab_wc 8 (c := 48) (as := [.ref 9]) (pc := 17) (ll := [some (.ref 9), some (.int x1)]) (st := [.long (r3 &&& (((1 : Int64) <<< ((x1).toInt64 &&& 63)) ^^^ (-1))), .ref 9]) (c1 := 0) (s1 := 0) (g := (ab_G mi1 ml2)) rfl ⟨trivial, trivial, trivial, trivial, trivial, trivial, trivial, trivial⟩ hc ?_
  obtain ⟨r9, mi7, ml8, hc, h⟩ := h
  refine ab_wc 1 (c := 55) (as := [.ref 9, .long (r3 &&& (((1 : Int64) <<< ((x1).toInt64 &&& 63)) ^^^ (-1))), .long r6]) (pc := 20) (ll := [some (.ref 9), some (.int x1)]) (st := []) (c1 := 0) (s1 := 0) (g := (ab_G mi4 ml5)) rfl trivial hc ?_
  obtain ⟨p0, h⟩ := h
  exact ab_wr 1 rfl p0 h
