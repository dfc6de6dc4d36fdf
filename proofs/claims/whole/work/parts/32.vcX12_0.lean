theorem vc_X12_thrown_0 {call : Nat → List Value → ab_S → Option Value → ab_S → Prop} {ro : ab_E} {Q : Option Value → ab_S → Prop}  (mi : Nat → Nat → Int32) (ml : Nat → Nat → Int64)
    (h : Q (some (.int (mi 40 0))) (ab_G mi ml)) :
    ab_W call ro 0 0 (ab_lk2 pl_X12_thrown) Q (0, [some (.ref 40)], [], 0, 0, ab_G mi ml) := by
  exact ab_wr 3 rfl ⟨trivial, trivial, trivial⟩ h
theorem vc_X12_feed_0 {call : Nat → List Value → ab_S → Option Value → ab_S → Prop} {ro : ab_E} {Q : Option Value → ab_S → Prop} (x1 : Int64) (x3 : Int64) (x5 : Int64) (mi : Nat → Nat → Int32) (ml : Nat → Nat → Int64)
    (h : ∃ (mi1 : Nat → Nat → Int32) (ml2 : Nat → Nat → Int64), call 146 [.ref 40, .long x1] (ab_G (ab_ui mi 40 0 0) ml) none (ab_G mi1 ml2) ∧ (∃ (mi3 : Nat → Nat → Int32) (ml4 : Nat → Nat → Int64), call 146 [.ref 40, .long x3] (ab_G mi1 ml2) none (ab_G mi3 ml4) ∧ (∃ (mi5 : Nat → Nat → Int32) (ml6 : Nat → Nat → Int64), call 146 [.ref 40, .long x5] (ab_G mi3 ml4) none (ab_G mi5 ml6) ∧ (Q (some (.int (mi5 40 2))) (ab_G mi5 ml6))))) :
    ab_W call ro 0 0 (ab_lk2 pl_X12_feed) Q (0, [some (.ref 40), some (.long x1), none, some (.long x3), none, some (.long x5), none], [], 0, 0, ab_G mi ml) := by
  obtain ⟨mi1, ml2, hc, h⟩ := h
  refine ab_wc 6 (c := 146) (as := [.ref 40, .long x1]) (pc := 10) (ll := [some (.ref 40), some (.long x1), none, some (.long x3), none, some (.long x5), none]) (st := []) (c1 := 0) (s1 := 0) (g := (ab_G (ab_ui mi 40 0 0) ml)) rfl ⟨trivial, trivial, trivial, trivial, trivial, trivial⟩ hc ?_
  obtain ⟨mi3, ml4, hc, h⟩ := h
  refine ab_wc 3 (c := 146) (as := [.ref 40, .long x3]) (pc := 15) (ll := [some (.ref 40), some (.long x1), none, some (.long x3), none, some (.long x5), none]) (st := []) (c1 := 0) (s1 := 0) (g := (ab_G mi1 ml2)) rfl ⟨trivial, trivial, trivial⟩ hc ?_
  obtain ⟨mi5, ml6, hc, h⟩ := h
  refine ab_wc 3 (c := 146) (as := [.ref 40, .long x5]) (pc := 21) (ll := [some (.ref 40), some (.long x1), none, some (.long x3), none, some (.long x5), none]) (st := []) (c1 := 0) (s1 := 0) (g := (ab_G mi3 ml4)) rfl ⟨trivial, trivial, trivial⟩ hc ?_
  exact ab_wr 3 rfl ⟨trivial, trivial, trivial⟩ h
theorem vc_X12_lay_0 {call : Nat → List Value → ab_S → Option Value → ab_S → Prop} {ro : ab_E} {Q : Option Value → ab_S → Prop} (x1 : Int64) (mi : Nat → Nat → Int32) (ml : Nat → Nat → Int64)
    (h : ab_W call ro 0 0 (ab_lk2 pl_X12_lay) Q (3, [some (.ref 40), some (.long x1), none, some (.int 56), none], [], 0, 0, (ab_G mi ml))) :
    ab_W call ro 0 0 (ab_lk2 pl_X12_lay) Q (0, [some (.ref 40), some (.long x1), none, none, none], [], 0, 0, ab_G mi ml) := by
  exact ab_wk 2 (f' := (3, [some (.ref 40), some (.long x1), none, some (.int 56), none], [], 0, 0, (ab_G mi ml))) rfl ⟨trivial, trivial, trivial⟩ h
theorem vc_X12_lay_3 {call : Nat → List Value → ab_S → Option Value → ab_S → Prop} {ro : ab_E} {Q : Option Value → ab_S → Prop} (y1 : Int64) (y3 : Int32) (mi : Nat → Nat → Int32) (ml : Nat → Nat → Int64)
    (h : ((y3 < 0) → (Q none (ab_G mi ml))) ∧ (¬ (y3 < 0) → ((((((y1 >>> ((y3).toInt64 &&& 63))).toInt32 &&& 255) = 10) → ((((mi 40 2) < 1000) → (vp_in (mi 40 2) 1000 ∧ (ab_W call ro 0 0 (ab_lk2 pl_X12_lay) Q (3, [some (.ref 40), some (.long y1), none, some (.int (y3 + (-8))), none], [], 0, 0, (ab_G (ab_ui (ab_ui mi 41 ((mi 40 2)).toNatClampNeg (((y1 >>> ((y3).toInt64 &&& 63))).toInt32 &&& 255)) 40 2 ((mi 40 2) + 1)) ml))))) ∧ (¬ ((mi 40 2) < 1000) → (ab_W call ro 0 0 (ab_lk2 pl_X12_lay) Q (3, [some (.ref 40), some (.long y1), none, some (.int (y3 + (-8))), none], [], 0, 0, (ab_G mi ml)))))) ∧ (¬ ((((y1 >>> ((y3).toInt64 &&& 63))).toInt32 &&& 255) = 10) → ((((((y1 >>> ((y3).toInt64 &&& 63))).toInt32 &&& 255) < 32) → (ab_W call ro 0 0 (ab_lk2 pl_X12_lay) Q (3, [some (.ref 40), some (.long y1), none, some (.int (y3 + (-8))), none], [], 0, 0, (ab_G mi ml)))) ∧ (¬ ((((y1 >>> ((y3).toInt64 &&& 63))).toInt32 &&& 255) < 32) → (((126 < (((y1 >>> ((y3).toInt64 &&& 63))).toInt32 &&& 255)) → (ab_W call ro 0 0 (ab_lk2 pl_X12_lay) Q (3, [some (.ref 40), some (.long y1), none, some (.int (y3 + (-8))), none], [], 0, 0, (ab_G mi ml)))) ∧ (¬ (126 < (((y1 >>> ((y3).toInt64 &&& 63))).toInt32 &&& 255)) → ((((mi 40 2) < 1000) → (vp_in (mi 40 2) 1000 ∧ (ab_W call ro 0 0 (ab_lk2 pl_X12_lay) Q (3, [some (.ref 40), some (.long y1), none, some (.int (y3 + (-8))), none], [], 0, 0, (ab_G (ab_ui (ab_ui mi 41 ((mi 40 2)).toNatClampNeg (((y1 >>> ((y3).toInt64 &&& 63))).toInt32 &&& 255)) 40 2 ((mi 40 2) + 1)) ml))))) ∧ (¬ ((mi 40 2) < 1000) → (ab_W call ro 0 0 (ab_lk2 pl_X12_lay) Q (3, [some (.ref 40), some (.long y1), none, some (.int (y3 + (-8))), none], [], 0, 0, (ab_G mi ml))))))))))))) :
    ab_W call ro 0 0 (ab_lk2 pl_X12_lay) Q (3, [some (.ref 40), some (.long y1), none, some (.int y3), none], [], 0, 0, ab_G mi ml) := by
  refine ab_wk 2 (f' := (if y3 < 0 then 75 else 7, [some (.ref 40), some (.long y1), none, some (.int y3), none], [], 0, 0, (ab_G mi ml))) rfl ⟨trivial, trivial, trivial⟩ ?_
  refine ab_wi (fun c => ?_) (fun c => ?_)
  · have h := h.1 c
    exact ab_wr 1 rfl trivial h
  · have h := h.2 c
    refine ab_wk 10 (f' := (if (((y1 >>> ((y3).toInt64 &&& 63))).toInt32 &&& 255) = 10 then 38 else 24, [some (.ref 40), some (.long y1), none, some (.int y3), some (.int (((y1 >>> ((y3).toInt64 &&& 63))).toInt32 &&& 255))], [], 0, 0, (ab_G mi ml))) rfl ⟨trivial, trivial, trivial, trivial, trivial, trivial, trivial, trivial, trivial, trivial, trivial⟩ ?_
    refine ab_wi (fun c => ?_) (fun c => ?_)
    · have h := h.1 c
      refine ab_wk 4 (f' := (if (mi 40 2) < 1000 then 48 else 69, [some (.ref 40), some (.long y1), none, some (.int y3), some (.int (((y1 >>> ((y3).toInt64 &&& 63))).toInt32 &&& 255))], [], 0, 0, (ab_G mi ml))) rfl ⟨trivial, trivial, trivial, trivial, trivial⟩ ?_
      refine ab_wi (fun c => ?_) (fun c => ?_)
      · have h := h.1 c
        obtain ⟨p0, h⟩ := h
        exact ab_wk 14 (f' := (3, [some (.ref 40), some (.long y1), none, some (.int (y3 + (-8))), some (.int (((y1 >>> ((y3).toInt64 &&& 63))).toInt32 &&& 255))], [], 0, 0, (ab_G (ab_ui (ab_ui mi 41 ((mi 40 2)).toNatClampNeg (((y1 >>> ((y3).toInt64 &&& 63))).toInt32 &&& 255)) 40 2 ((mi 40 2) + 1)) ml))) rfl ⟨trivial, trivial, trivial, trivial, trivial, p0, trivial, trivial, trivial, trivial, trivial, trivial, trivial, trivial, trivial⟩ (ab_drop h (ab_lrc _ (ab_lrc _ (ab_lrc _ (ab_lrc _ (ab_lrn _ ab_lr0))))))
      · have h := h.2 c
        exact ab_wk 2 (f' := (3, [some (.ref 40), some (.long y1), none, some (.int (y3 + (-8))), some (.int (((y1 >>> ((y3).toInt64 &&& 63))).toInt32 &&& 255))], [], 0, 0, (ab_G mi ml))) rfl ⟨trivial, trivial, trivial⟩ (ab_drop h (ab_lrc _ (ab_lrc _ (ab_lrc _ (ab_lrc _ (ab_lrn _ ab_lr0))))))
    · have h := h.2 c
      refine ab_wk 3 (f' := (if (((y1 >>> ((y3).toInt64 &&& 63))).toInt32 &&& 255) < 32 then 69 else 31, [some (.ref 40), some (.long y1), none, some (.int y3), some (.int (((y1 >>> ((y3).toInt64 &&& 63))).toInt32 &&& 255))], [], 0, 0, (ab_G mi ml))) rfl ⟨trivial, trivial, trivial, trivial⟩ ?_
      refine ab_wi (fun c => ?_) (fun c => ?_)
      · have h := h.1 c
        exact ab_wk 2 (f' := (3, [some (.ref 40), some (.long y1), none, some (.int (y3 + (-8))), some (.int (((y1 >>> ((y3).toInt64 &&& 63))).toInt32 &&& 255))], [], 0, 0, (ab_G mi ml))) rfl ⟨trivial, trivial, trivial⟩ (ab_drop h (ab_lrc _ (ab_lrc _ (ab_lrc _ (ab_lrc _ (ab_lrn _ ab_lr0))))))
      · have h := h.2 c
        refine ab_wk 3 (f' := (if 126 < (((y1 >>> ((y3).toInt64 &&& 63))).toInt32 &&& 255) then 69 else 38, [some (.ref 40), some (.long y1), none, some (.int y3), some (.int (((y1 >>> ((y3).toInt64 &&& 63))).toInt32 &&& 255))], [], 0, 0, (ab_G mi ml))) rfl ⟨trivial, trivial, trivial, trivial⟩ ?_
        refine ab_wi (fun c => ?_) (fun c => ?_)
        · have h := h.1 c
          exact ab_wk 2 (f' := (3, [some (.ref 40), some (.long y1), none, some (.int (y3 + (-8))), some (.int (((y1 >>> ((y3).toInt64 &&& 63))).toInt32 &&& 255))], [], 0, 0, (ab_G mi ml))) rfl ⟨trivial, trivial, trivial⟩ (ab_drop h (ab_lrc _ (ab_lrc _ (ab_lrc _ (ab_lrc _ (ab_lrn _ ab_lr0))))))
        · have h := h.2 c
          refine ab_wk 4 (f' := (if (mi 40 2) < 1000 then 48 else 69, [some (.ref 40), some (.long y1), none, some (.int y3), some (.int (((y1 >>> ((y3).toInt64 &&& 63))).toInt32 &&& 255))], [], 0, 0, (ab_G mi ml))) rfl ⟨trivial, trivial, trivial, trivial, trivial⟩ ?_
          refine ab_wi (fun c => ?_) (fun c => ?_)
          · have h := h.1 c
            obtain ⟨p0, h⟩ := h
            exact ab_wk 14 (f' := (3, [some (.ref 40), some (.long y1), none, some (.int (y3 + (-8))), some (.int (((y1 >>> ((y3).toInt64 &&& 63))).toInt32 &&& 255))], [], 0, 0, (ab_G (ab_ui (ab_ui mi 41 ((mi 40 2)).toNatClampNeg (((y1 >>> ((y3).toInt64 &&& 63))).toInt32 &&& 255)) 40 2 ((mi 40 2) + 1)) ml))) rfl ⟨trivial, trivial, trivial, trivial, trivial, p0, trivial, trivial, trivial, trivial, trivial, trivial, trivial, trivial, trivial⟩ (ab_drop h (ab_lrc _ (ab_lrc _ (ab_lrc _ (ab_lrc _ (ab_lrn _ ab_lr0))))))
          · have h := h.2 c
            exact ab_wk 2 (f' := (3, [some (.ref 40), some (.long y1), none, some (.int (y3 + (-8))), some (.int (((y1 >>> ((y3).toInt64 &&& 63))).toInt32 &&& 255))], [], 0, 0, (ab_G mi ml))) rfl ⟨trivial, trivial, trivial⟩ (ab_drop h (ab_lrc _ (ab_lrc _ (ab_lrc _ (ab_lrc _ (ab_lrn _ ab_lr0))))))
theorem vc_X12_isLetter_0 {call : Nat → List Value → ab_S → Option Value → ab_S → Prop} {ro : ab_E} {Q : Option Value → ab_S → Prop} (x0 : Int32) (mi : Nat → Nat → Int32) (ml : Nat → Nat → Int64)
    (h : ((x0 < 97) → (Q (some (.int 0)) (ab_G mi ml))) ∧ (¬ (x0 < 97) → (((122 < x0) → (Q (some (.int 0)) (ab_G mi ml))) ∧ (¬ (122 < x0) → (Q (some (.int 1)) (ab_G mi ml)))))) :
    ab_W call ro 0 0 (ab_lk2 pl_X12_isLetter) Q (0, [some (.int x0)], [], 0, 0, ab_G mi ml) := by
  refine ab_wk 3 (f' := (if x0 < 97 then 16 else 6, [some (.int x0)], [], 0, 0, (ab_G mi ml))) rfl ⟨trivial, trivial, trivial, trivial⟩ ?_
  refine ab_wi (fun c => ?_) (fun c => ?_)
  · have h := h.1 c
    exact ab_wr 2 rfl ⟨trivial, (Or.inl rfl)⟩ h
  · have h := h.2 c
    refine ab_wk 3 (f' := (if 122 < x0 then 16 else 12, [some (.int x0)], [], 0, 0, (ab_G mi ml))) rfl ⟨trivial, trivial, trivial, trivial⟩ ?_
    refine ab_wi (fun c => ?_) (fun c => ?_)
    · have h := h.1 c
      exact ab_wr 2 rfl ⟨trivial, (Or.inl rfl)⟩ h
    · have h := h.2 c
      exact ab_wr 3 rfl ⟨trivial, trivial, (Or.inr rfl)⟩ h
theorem vc_X12_isDigit_0 {call : Nat → List Value → ab_S → Option Value → ab_S → Prop} {ro : ab_E} {Q : Option Value → ab_S → Prop} (x0 : Int32) (mi : Nat → Nat → Int32) (ml : Nat → Nat → Int64)
    (h : ((x0 < 48) → (Q (some (.int 0)) (ab_G mi ml))) ∧ (¬ (x0 < 48) → (((57 < x0) → (Q (some (.int 0)) (ab_G mi ml))) ∧ (¬ (57 < x0) → (Q (some (.int 1)) (ab_G mi ml)))))) :
    ab_W call ro 0 0 (ab_lk2 pl_X12_isDigit) Q (0, [some (.int x0)], [], 0, 0, ab_G mi ml) := by
  refine ab_wk 3 (f' := (if x0 < 48 then 16 else 6, [some (.int x0)], [], 0, 0, (ab_G mi ml))) rfl ⟨trivial, trivial, trivial, trivial⟩ ?_
  refine ab_wi (fun c => ?_) (fun c => ?_)
  · have h := h.1 c
    exact ab_wr 2 rfl ⟨trivial, (Or.inl rfl)⟩ h
  · have h := h.2 c
    refine ab_wk 3 (f' := (if 57 < x0 then 16 else 12, [some (.int x0)], [], 0, 0, (ab_G mi ml))) rfl ⟨trivial, trivial, trivial, trivial⟩ ?_
    refine ab_wi (fun c => ?_) (fun c => ?_)
    · have h := h.1 c
      exact ab_wr 2 rfl ⟨trivial, (Or.inl rfl)⟩ h
    · have h := h.2 c
      exact ab_wr 3 rfl ⟨trivial, trivial, (Or.inr rfl)⟩ h
theorem vc_X12_rank_0 {call : Nat → List Value → ab_S → Option Value → ab_S → Prop} {ro : ab_E} {Q : Option Value → ab_S → Prop} (x0 : Int32) (mi : Nat → Nat → Int32) (ml : Nat → Nat → Int64)
    (h : ∃ (r3 : Int32) (mi1 : Nat → Nat → Int32) (ml2 : Nat → Nat → Int64), call 148 [.int x0] (ab_G mi ml) (some (.int r3)) (ab_G mi1 ml2) ∧ (((r3 = 0) → (Q (some (.int (x0 - 21))) (ab_G mi1 ml2))) ∧ (¬ (r3 = 0) → (Q (some (.int (x0 - 96))) (ab_G mi1 ml2))))) :
    ab_W call ro 0 0 (ab_lk2 pl_X12_rank) Q (0, [some (.int x0)], [], 0, 0, ab_G mi ml) := by
  obtain ⟨r3, mi1, ml2, hc, h⟩ := h
  refine ab_wc 2 (c := 148) (as := [.int x0]) (pc := 4) (ll := [some (.int x0)]) (st := []) (c1 := 0) (s1 := 0) (g := (ab_G mi ml)) rfl ⟨trivial, trivial⟩ hc ?_
  refine ab_wk 1 (f' := (if r3 = 0 then 14 else 7, [some (.int x0)], [], 0, 0, (ab_G mi1 ml2))) rfl ⟨trivial, trivial⟩ ?_
  refine ab_wi (fun c => ?_) (fun c => ?_)
  · have h := h.1 c
    exact ab_wr 4 rfl ⟨trivial, trivial, trivial, trivial⟩ h
  · have h := h.2 c
    exact ab_wr 5 rfl ⟨trivial, trivial, trivial, trivial, trivial⟩ h
theorem vc_X12_isSignOf_0 {call : Nat → List Value → ab_S → Option Value → ab_S → Prop} {ro : ab_E} {Q : Option Value → ab_S → Prop} (x0 : Int32) (mi : Nat → Nat → Int32) (ml : Nat → Nat → Int64)
    (h : ((x0 = 40) → (Q (some (.int 1)) (ab_G mi ml))) ∧ (¬ (x0 = 40) → (((x0 = 41) → (Q (some (.int 1)) (ab_G mi ml))) ∧ (¬ (x0 = 41) → (((x0 = 59) → (Q (some (.int 1)) (ab_G mi ml))) ∧ (¬ (x0 = 59) → (Q (some (.int 0)) (ab_G mi ml)))))))) :
    ab_W call ro 0 0 (ab_lk2 pl_X12_isSignOf) Q (0, [some (.int x0)], [], 0, 0, ab_G mi ml) := by
  refine ab_wk 3 (f' := (if x0 = 40 then 18 else 6, [some (.int x0)], [], 0, 0, (ab_G mi ml))) rfl ⟨trivial, trivial, trivial, trivial⟩ ?_
  refine ab_wi (fun c => ?_) (fun c => ?_)
  · have h := h.1 c
    exact ab_wr 3 rfl ⟨trivial, trivial, (Or.inr rfl)⟩ h
  · have h := h.2 c
    refine ab_wk 3 (f' := (if x0 = 41 then 18 else 12, [some (.int x0)], [], 0, 0, (ab_G mi ml))) rfl ⟨trivial, trivial, trivial, trivial⟩ ?_
    refine ab_wi (fun c => ?_) (fun c => ?_)
    · have h := h.1 c
      exact ab_wr 3 rfl ⟨trivial, trivial, (Or.inr rfl)⟩ h
    · have h := h.2 c
      refine ab_wk 3 (f' := (if x0 = 59 then 18 else 22, [some (.int x0)], [], 0, 0, (ab_G mi ml))) rfl ⟨trivial, trivial, trivial, trivial⟩ ?_
      refine ab_wi (fun c => ?_) (fun c => ?_)
      · have h := h.1 c
        exact ab_wr 3 rfl ⟨trivial, trivial, (Or.inr rfl)⟩ h
      · have h := h.2 c
        exact ab_wr 2 rfl ⟨trivial, (Or.inl rfl)⟩ h
theorem vc_X12_cutAll_0 {call : Nat → List Value → ab_S → Option Value → ab_S → Prop} {ro : ab_E} {Q : Option Value → ab_S → Prop}  (mi : Nat → Nat → Int32) (ml : Nat → Nat → Int64)
    (h : ab_W call ro 0 0 (ab_lk2 pl_X12_cutAll) Q (17, [some (.ref 40), some (.int 0), some (.int 0), none, none, none, none], [], 0, 0, (ab_G (ab_ui (ab_ui mi 40 3 (mi 40 2)) 40 2 0) ml))) :
    ab_W call ro 0 0 (ab_lk2 pl_X12_cutAll) Q (0, [some (.ref 40), none, none, none, none, none, none], [], 0, 0, ab_G mi ml) := by
  exact ab_wk 11 (f' := (17, [some (.ref 40), some (.int 0), some (.int 0), none, none, none, none], [], 0, 0, (ab_G (ab_ui (ab_ui mi 40 3 (mi 40 2)) 40 2 0) ml))) rfl ⟨trivial, trivial, trivial, trivial, trivial, trivial, trivial, trivial, trivial, trivial, trivial, trivial⟩ h
theorem vc_X12_cutAll_17 {call : Nat → List Value → ab_S → Option Value → ab_S → Prop} {ro : ab_E} {Q : Option Value → ab_S → Prop} (y1 : Int32) (y2 : Int32) (mi : Nat → Nat → Int32) (ml : Nat → Nat → Int64)
    (h : ((y2 < (mi 40 3)) → (vp_in y2 1000 ∧ ((((mi 41 (y2).toNatClampNeg) = 10) → (ab_W call ro 0 0 (ab_lk2 pl_X12_cutAll) Q (17, [some (.ref 40), some (.int y1), some (.int (y2 + 1)), none, none, none, none], [], 0, 0, (ab_G mi ml)))) ∧ (¬ ((mi 41 (y2).toNatClampNeg) = 10) → ((((mi 41 (y2).toNatClampNeg) = 32) → (ab_W call ro 0 0 (ab_lk2 pl_X12_cutAll) Q (17, [some (.ref 40), some (.int y1), some (.int (y2 + 1)), none, none, none, none], [], 0, 0, (ab_G mi ml)))) ∧ (¬ ((mi 41 (y2).toNatClampNeg) = 32) → (vp_in y1 1002 ∧ (∃ (r3 : Int32) (mi1 : Nat → Nat → Int32) (ml2 : Nat → Nat → Int64), call 148 [.int (mi 41 (y2).toNatClampNeg)] (ab_G (ab_ui mi 43 (y1).toNatClampNeg y2) ml) (some (.int r3)) (ab_G mi1 ml2) ∧ (((r3 = 0) → (∃ (r6 : Int32) (mi4 : Nat → Nat → Int32) (ml5 : Nat → Nat → Int64), call 149 [.int (mi 41 (y2).toNatClampNeg)] (ab_G mi1 ml2) (some (.int r6)) (ab_G mi4 ml5) ∧ (((r6 = 0) → (∃ (r9 : Int32) (mi7 : Nat → Nat → Int32) (ml8 : Nat → Nat → Int64), call 151 [.int (mi 41 (y2).toNatClampNeg)] (ab_G mi4 ml5) (some (.int r9)) (ab_G mi7 ml8) ∧ (((r9 = 0) → (vp_in y1 1002 ∧ (vp_in y1 1002 ∧ (ab_W call ro 0 0 (ab_lk2 pl_X12_cutAll) Q (17, [some (.ref 40), some (.int (y1 + 1)), some (.int (y2 + 1)), none, none, none, none], [], 0, 0, (ab_G (ab_ui mi7 42 (y1).toNatClampNeg 4) (ab_ul ml8 44 (y1).toNatClampNeg ((mi 41 (y2).toNatClampNeg) : Int32).toInt64))))))) ∧ (¬ (r9 = 0) → (vp_in y1 1002 ∧ (vp_in y1 1002 ∧ (ab_W call ro 0 0 (ab_lk2 pl_X12_cutAll) Q (17, [some (.ref 40), some (.int (y1 + 1)), some (.int (y2 + 1)), none, none, none, none], [], 0, 0, (ab_G (ab_ui mi7 42 (y1).toNatClampNeg 3) (ab_ul ml8 44 (y1).toNatClampNeg ((mi 41 (y2).toNatClampNeg) : Int32).toInt64)))))))))) ∧ (¬ (r6 = 0) → (ab_W call ro 0 0 (ab_lk2 pl_X12_cutAll) Q (159, [some (.ref 40), some (.int y1), some (.int y2), some (.int (mi 41 (y2).toNatClampNeg)), some (.int y2), some (.long 0), none], [], 0, 0, (ab_G mi4 ml5))))))) ∧ (¬ (r3 = 0) → (ab_W call ro 0 0 (ab_lk2 pl_X12_cutAll) Q (70, [some (.ref 40), some (.int y1), some (.int y2), some (.int (mi 41 (y2).toNatClampNeg)), some (.int y2), some (.long 0), none], [], 0, 0, (ab_G mi1 ml2))))))))))))) ∧ (¬ (y2 < (mi 40 3)) → (vp_in y1 1002 ∧ (vp_in y1 1002 ∧ (Q none (ab_G (ab_ui (ab_ui (ab_ui (ab_ui mi 42 (y1).toNatClampNeg 0) 43 (y1).toNatClampNeg (mi 40 3)) 40 7 0) 40 8 0) ml)))))) :
    ab_W call ro 0 0 (ab_lk2 pl_X12_cutAll) Q (17, [some (.ref 40), some (.int y1), some (.int y2), none, none, none, none], [], 0, 0, ab_G mi ml) := by
  refine ab_wk 4 (f' := (if y2 < (mi 40 3) then 25 else 279, [some (.ref 40), some (.int y1), some (.int y2), none, none, none, none], [], 0, 0, (ab_G mi ml))) rfl ⟨trivial, trivial, trivial, trivial, trivial⟩ ?_
  refine ab_wi (fun c => ?_) (fun c => ?_)
  · have h := h.1 c
    obtain ⟨p0, h⟩ := h
    refine ab_wk 8 (f' := (if (mi 41 (y2).toNatClampNeg) = 10 then 44 else 38, [some (.ref 40), some (.int y1), some (.int y2), some (.int (mi 41 (y2).toNatClampNeg)), none, none, none], [], 0, 0, (ab_G mi ml))) rfl ⟨trivial, trivial, trivial, p0, trivial, trivial, trivial, trivial, trivial⟩ ?_
    refine ab_wi (fun c => ?_) (fun c => ?_)
    · have h := h.1 c
      exact ab_wk 2 (f' := (17, [some (.ref 40), some (.int y1), some (.int (y2 + 1)), some (.int (mi 41 (y2).toNatClampNeg)), none, none, none], [], 0, 0, (ab_G mi ml))) rfl ⟨trivial, trivial, trivial⟩ (ab_drop h (ab_lrc _ (ab_lrc _ (ab_lrc _ (ab_lrn _ (ab_lrc _ (ab_lrc _ (ab_lrc _ ab_lr0))))))))
    · have h := h.2 c
      refine ab_wk 3 (f' := (if (mi 41 (y2).toNatClampNeg) = 32 then 44 else 50, [some (.ref 40), some (.int y1), some (.int y2), some (.int (mi 41 (y2).toNatClampNeg)), none, none, none], [], 0, 0, (ab_G mi ml))) rfl ⟨trivial, trivial, trivial, trivial⟩ ?_
      refine ab_wi (fun c => ?_) (fun c => ?_)
      · have h := h.1 c
        exact ab_wk 2 (f' := (17, [some (.ref 40), some (.int y1), some (.int (y2 + 1)), some (.int (mi 41 (y2).toNatClampNeg)), none, none, none], [], 0, 0, (ab_G mi ml))) rfl ⟨trivial, trivial, trivial⟩ (ab_drop h (ab_lrc _ (ab_lrc _ (ab_lrc _ (ab_lrn _ (ab_lrc _ (ab_lrc _ (ab_lrc _ ab_lr0))))))))
      · have h := h.2 c
        obtain ⟨p0, h⟩ := h
        obtain ⟨r3, mi1, ml2, hc, h⟩ := h
        refine ab_wc 11 (c := 148) (as := [.int (mi 41 (y2).toNatClampNeg)]) (pc := 67) (ll := [some (.ref 40), some (.int y1), some (.int y2), some (.int (mi 41 (y2).toNatClampNeg)), some (.int y2), some (.long 0), none]) (st := []) (c1 := 0) (s1 := 0) (g := (ab_G (ab_ui mi 43 (y1).toNatClampNeg y2) ml)) rfl ⟨trivial, trivial, trivial, trivial, trivial, trivial, trivial, trivial, p0, trivial, trivial⟩ hc ?_
        refine ab_wk 1 (f' := (if r3 = 0 then 152 else 70, [some (.ref 40), some (.int y1), some (.int y2), some (.int (mi 41 (y2).toNatClampNeg)), some (.int y2), some (.long 0), none], [], 0, 0, (ab_G mi1 ml2))) rfl ⟨trivial, trivial⟩ ?_
        refine ab_wi (fun c => ?_) (fun c => ?_)
        · have h := h.1 c
          obtain ⟨r6, mi4, ml5, hc, h⟩ := h
          refine ab_wc 2 (c := 149) (as := [.int (mi 41 (y2).toNatClampNeg)]) (pc := 156) (ll := [some (.ref 40), some (.int y1), some (.int y2), some (.int (mi 41 (y2).toNatClampNeg)), some (.int y2), some (.long 0), none]) (st := []) (c1 := 0) (s1 := 0) (g := (ab_G mi1 ml2)) rfl ⟨trivial, trivial⟩ hc ?_
          refine ab_wk 1 (f' := (if r6 = 0 then 240 else 159, [some (.ref 40), some (.int y1), some (.int y2), some (.int (mi 41 (y2).toNatClampNeg)), some (.int y2), some (.long 0), none], [], 0, 0, (ab_G mi4 ml5))) rfl ⟨trivial, trivial⟩ ?_
          refine ab_wi (fun c => ?_) (fun c => ?_)
          · have h := h.1 c
            obtain ⟨r9, mi7, ml8, hc, h⟩ := h
            refine ab_wc 8 (c := 151) (as := [.int (mi 41 (y2).toNatClampNeg)]) (pc := 253) (ll := [some (.ref 40), some (.int y1), some (.int y2), some (.int (mi 41 (y2).toNatClampNeg)), some (.int y2), some (.long ((mi 41 (y2).toNatClampNeg) : Int32).toInt64), none]) (st := [.int y1, .ref 42]) (c1 := 0) (s1 := 0) (g := (ab_G mi4 ml5)) rfl ⟨trivial, trivial, trivial, trivial, trivial, trivial, trivial, trivial⟩ hc ?_
            refine ab_wk 1 (f' := (if r9 = 0 then 260 else 256, [some (.ref 40), some (.int y1), some (.int y2), some (.int (mi 41 (y2).toNatClampNeg)), some (.int y2), some (.long ((mi 41 (y2).toNatClampNeg) : Int32).toInt64), none], [.int y1, .ref 42], 0, 0, (ab_G mi7 ml8))) rfl ⟨trivial, trivial⟩ ?_
            refine ab_wi (fun c => ?_) (fun c => ?_)
            · have h := h.1 c
              obtain ⟨p0, p1, h⟩ := h
              exact ab_wk 10 (f' := (17, [some (.ref 40), some (.int (y1 + 1)), some (.int (y2 + 1)), some (.int (mi 41 (y2).toNatClampNeg)), some (.int y2), some (.long ((mi 41 (y2).toNatClampNeg) : Int32).toInt64), none], [], 0, 0, (ab_G (ab_ui mi7 42 (y1).toNatClampNeg 4) (ab_ul ml8 44 (y1).toNatClampNeg ((mi 41 (y2).toNatClampNeg) : Int32).toInt64)))) rfl ⟨trivial, p0, trivial, trivial, trivial, trivial, trivial, p1, trivial, trivial, trivial⟩ (ab_drop h (ab_lrc _ (ab_lrc _ (ab_lrc _ (ab_lrn _ (ab_lrn _ (ab_lrn _ (ab_lrc _ ab_lr0))))))))
            · have h := h.2 c
              obtain ⟨p0, p1, h⟩ := h
              exact ab_wk 11 (f' := (17, [some (.ref 40), some (.int (y1 + 1)), some (.int (y2 + 1)), some (.int (mi 41 (y2).toNatClampNeg)), some (.int y2), some (.long ((mi 41 (y2).toNatClampNeg) : Int32).toInt64), none], [], 0, 0, (ab_G (ab_ui mi7 42 (y1).toNatClampNeg 3) (ab_ul ml8 44 (y1).toNatClampNeg ((mi 41 (y2).toNatClampNeg) : Int32).toInt64)))) rfl ⟨trivial, trivial, p0, trivial, trivial, trivial, trivial, trivial, p1, trivial, trivial, trivial⟩ (ab_drop h (ab_lrc _ (ab_lrc _ (ab_lrc _ (ab_lrn _ (ab_lrn _ (ab_lrn _ (ab_lrc _ ab_lr0))))))))
          · have h := h.2 c
            exact h
        · have h := h.2 c
          exact h
  · have h := h.2 c
    obtain ⟨p0, p1, h⟩ := h
    exact ab_wr 18 rfl ⟨trivial, trivial, trivial, trivial, p0, trivial, trivial, trivial, trivial, trivial, p1, trivial, trivial, trivial, trivial, trivial, trivial, trivial⟩ h
theorem vc_X12_cutAll_70 {call : Nat → List Value → ab_S → Option Value → ab_S → Prop} {ro : ab_E} {Q : Option Value → ab_S → Prop} (y1 : Int32) (y2 : Int32) (y3 : Int32) (y4 : Int32) (y5 : Int64) (mi : Nat → Nat → Int32) (ml : Nat → Nat → Int64)
    (h : ((y2 < (mi 40 3)) → (vp_in y2 1000 ∧ (∃ (r12 : Int32) (mi10 : Nat → Nat → Int32) (ml11 : Nat → Nat → Int64), call 148 [.int (mi 41 (y2).toNatClampNeg)] (ab_G mi ml) (some (.int r12)) (ab_G mi10 ml11) ∧ (((r12 = 0) → (((8 < (y2 - y4)) → (vp_in y1 1002 ∧ (vp_in y1 1002 ∧ (ab_W call ro 0 0 (ab_lk2 pl_X12_cutAll) Q (17, [some (.ref 40), some (.int (y1 + 1)), some (.int y2), none, none, none, none], [], 0, 0, (ab_G (ab_ui mi10 42 (y1).toNatClampNeg 4) (ab_ul ml11 44 (y1).toNatClampNeg y5))))))) ∧ (¬ (8 < (y2 - y4)) → (vp_in y1 1002 ∧ (vp_in y1 1002 ∧ (ab_W call ro 0 0 (ab_lk2 pl_X12_cutAll) Q (17, [some (.ref 40), some (.int (y1 + 1)), some (.int y2), none, none, none, none], [], 0, 0, (ab_G (ab_ui mi10 42 (y1).toNatClampNeg 1) (ab_ul ml11 44 (y1).toNatClampNeg y5))))))))) ∧ (¬ (r12 = 0) → ((((y2 - y4) < 8) → (vp_in y2 1000 ∧ (∃ (r15 : Int32) (mi13 : Nat → Nat → Int32) (ml14 : Nat → Nat → Int64), call 150 [.int (mi10 41 (y2).toNatClampNeg)] (ab_G mi10 ml11) (some (.int r15)) (ab_G mi13 ml14) ∧ (ab_W call ro 0 0 (ab_lk2 pl_X12_cutAll) Q (70, [some (.ref 40), some (.int y1), some (.int (y2 + 1)), some (.int y3), some (.int y4), some (.long ((37 * y5) + (r15 : Int32).toInt64)), none], [], 0, 0, (ab_G mi13 ml14)))))) ∧ (¬ ((y2 - y4) < 8) → (ab_W call ro 0 0 (ab_lk2 pl_X12_cutAll) Q (70, [some (.ref 40), some (.int y1), some (.int (y2 + 1)), some (.int y3), some (.int y4), some (.long y5), none], [], 0, 0, (ab_G mi10 ml11)))))))))) ∧ (¬ (y2 < (mi 40 3)) → (((8 < (y2 - y4)) → (vp_in y1 1002 ∧ (vp_in y1 1002 ∧ (ab_W call ro 0 0 (ab_lk2 pl_X12_cutAll) Q (17, [some (.ref 40), some (.int (y1 + 1)), some (.int y2), none, none, none, none], [], 0, 0, (ab_G (ab_ui mi 42 (y1).toNatClampNeg 4) (ab_ul ml 44 (y1).toNatClampNeg y5))))))) ∧ (¬ (8 < (y2 - y4)) → (vp_in y1 1002 ∧ (vp_in y1 1002 ∧ (ab_W call ro 0 0 (ab_lk2 pl_X12_cutAll) Q (17, [some (.ref 40), some (.int (y1 + 1)), some (.int y2), none, none, none, none], [], 0, 0, (ab_G (ab_ui mi 42 (y1).toNatClampNeg 1) (ab_ul ml 44 (y1).toNatClampNeg y5)))))))))) :
    ab_W call ro 0 0 (ab_lk2 pl_X12_cutAll) Q (70, [some (.ref 40), some (.int y1), some (.int y2), some (.int y3), some (.int y4), some (.long y5), none], [], 0, 0, ab_G mi ml) := by
  refine ab_wk 4 (f' := (if y2 < (mi 40 3) then 78 else 129, [some (.ref 40), some (.int y1), some (.int y2), some (.int y3), some (.int y4), some (.long y5), none], [], 0, 0, (ab_G mi ml))) rfl ⟨trivial, trivial, trivial, trivial, trivial⟩ ?_
  refine ab_wi (fun c => ?_) (fun c => ?_)
  · have h := h.1 c
    obtain ⟨p0, h⟩ := h
    obtain ⟨r12, mi10, ml11, hc, h⟩ := h
    refine ab_wc 5 (c := 148) (as := [.int (mi 41 (y2).toNatClampNeg)]) (pc := 87) (ll := [some (.ref 40), some (.int y1), some (.int y2), some (.int y3), some (.int y4), some (.long y5), none]) (st := []) (c1 := 0) (s1 := 0) (g := (ab_G mi ml)) rfl ⟨trivial, trivial, trivial, p0, trivial⟩ hc ?_
    refine ab_wk 1 (f' := (if r12 = 0 then 129 else 90, [some (.ref 40), some (.int y1), some (.int y2), some (.int y3), some (.int y4), some (.long y5), none], [], 0, 0, (ab_G mi10 ml11))) rfl ⟨trivial, trivial⟩ ?_
    refine ab_wi (fun c => ?_) (fun c => ?_)
    · have h := h.1 c
      refine ab_wk 8 (f' := (if 8 < (y2 - y4) then 143 else 147, [some (.ref 40), some (.int y1), some (.int y2), some (.int y3), some (.int y4), some (.long y5), none], [.int y1, .ref 42], 0, 0, (ab_G mi10 ml11))) rfl ⟨trivial, trivial, trivial, trivial, trivial, trivial, trivial, trivial, trivial⟩ ?_
      refine ab_wi (fun c => ?_) (fun c => ?_)
      · have h := h.1 c
        obtain ⟨p0, p1, h⟩ := h
        exact ab_wk 11 (f' := (17, [some (.ref 40), some (.int (y1 + 1)), some (.int y2), some (.int y3), some (.int y4), some (.long y5), none], [], 0, 0, (ab_G (ab_ui mi10 42 (y1).toNatClampNeg 4) (ab_ul ml11 44 (y1).toNatClampNeg y5)))) rfl ⟨trivial, trivial, p0, trivial, trivial, trivial, trivial, trivial, p1, trivial, trivial, trivial⟩ (ab_drop h (ab_lrc _ (ab_lrc _ (ab_lrc _ (ab_lrn _ (ab_lrn _ (ab_lrn _ (ab_lrc _ ab_lr0))))))))
      · have h := h.2 c
        obtain ⟨p0, p1, h⟩ := h
        exact ab_wk 10 (f' := (17, [some (.ref 40), some (.int (y1 + 1)), some (.int y2), some (.int y3), some (.int y4), some (.long y5), none], [], 0, 0, (ab_G (ab_ui mi10 42 (y1).toNatClampNeg 1) (ab_ul ml11 44 (y1).toNatClampNeg y5)))) rfl ⟨trivial, p0, trivial, trivial, trivial, trivial, trivial, p1, trivial, trivial, trivial⟩ (ab_drop h (ab_lrc _ (ab_lrc _ (ab_lrc _ (ab_lrn _ (ab_lrn _ (ab_lrn _ (ab_lrc _ ab_lr0))))))))
    · have h := h.2 c
      refine ab_wk 5 (f' := (if (y2 - y4) < 8 then 99 else 119, [some (.ref 40), some (.int y1), some (.int y2), some (.int y3), some (.int y4), some (.long y5), none], [], 0, 0, (ab_G mi10 ml11))) rfl ⟨trivial, trivial, trivial, trivial, trivial, trivial⟩ ?_
      refine ab_wi (fun c => ?_) (fun c => ?_)
      · have h := h.1 c
        obtain ⟨p0, h⟩ := h
        obtain ⟨r15, mi13, ml14, hc, h⟩ := h
        refine ab_wc 8 (c := 150) (as := [.int (mi10 41 (y2).toNatClampNeg)]) (pc := 114) (ll := [some (.ref 40), some (.int y1), some (.int y2), some (.int y3), some (.int y4), some (.long y5), none]) (st := [.long (37 * y5)]) (c1 := 0) (s1 := 0) (g := (ab_G mi10 ml11)) rfl ⟨trivial, trivial, trivial, trivial, trivial, trivial, p0, trivial⟩ hc ?_
        exact ab_wk 6 (f' := (70, [some (.ref 40), some (.int y1), some (.int (y2 + 1)), some (.int y3), some (.int y4), some (.long ((37 * y5) + (r15 : Int32).toInt64)), none], [], 0, 0, (ab_G mi13 ml14))) rfl ⟨trivial, trivial, trivial, trivial, trivial, trivial, trivial⟩ h
      · have h := h.2 c
        exact ab_wk 4 (f' := (70, [some (.ref 40), some (.int y1), some (.int (y2 + 1)), some (.int y3), some (.int y4), some (.long y5), none], [], 0, 0, (ab_G mi10 ml11))) rfl ⟨trivial, trivial, trivial, trivial, trivial⟩ h
  · have h := h.2 c
    refine ab_wk 8 (f' := (if 8 < (y2 - y4) then 143 else 147, [some (.ref 40), some (.int y1), some (.int y2), some (.int y3), some (.int y4), some (.long y5), none], [.int y1, .ref 42], 0, 0, (ab_G mi ml))) rfl ⟨trivial, trivial, trivial, trivial, trivial, trivial, trivial, trivial, trivial⟩ ?_
    refine ab_wi (fun c => ?_) (fun c => ?_)
    · have h := h.1 c
      obtain ⟨p0, p1, h⟩ := h
      exact ab_wk 11 (f' := (17, [some (.ref 40), some (.int (y1 + 1)), some (.int y2), some (.int y3), some (.int y4), some (.long y5), none], [], 0, 0, (ab_G (ab_ui mi 42 (y1).toNatClampNeg 4) (ab_ul ml 44 (y1).toNatClampNeg y5)))) rfl ⟨trivial, trivial, p0, trivial, trivial, trivial, trivial, trivial, p1, trivial, trivial, trivial⟩ (ab_drop h (ab_lrc _ (ab_lrc _ (ab_lrc _ (ab_lrn _ (ab_lrn _ (ab_lrn _ (ab_lrc _ ab_lr0))))))))
    · have h := h.2 c
      obtain ⟨p0, p1, h⟩ := h
      exact ab_wk 10 (f' := (17, [some (.ref 40), some (.int (y1 + 1)), some (.int y2), some (.int y3), some (.int y4), some (.long y5), none], [], 0, 0, (ab_G (ab_ui mi 42 (y1).toNatClampNeg 1) (ab_ul ml 44 (y1).toNatClampNeg y5)))) rfl ⟨trivial, p0, trivial, trivial, trivial, trivial, trivial, p1, trivial, trivial, trivial⟩ (ab_drop h (ab_lrc _ (ab_lrc _ (ab_lrc _ (ab_lrn _ (ab_lrn _ (ab_lrn _ (ab_lrc _ ab_lr0))))))))
theorem vc_X12_cutAll_159 {call : Nat → List Value → ab_S → Option Value → ab_S → Prop} {ro : ab_E} {Q : Option Value → ab_S → Prop} (y1 : Int32) (y2 : Int32) (y3 : Int32) (y4 : Int32) (y5 : Int64) (mi : Nat → Nat → Int32) (ml : Nat → Nat → Int64)
    (h : ((y2 < (mi 40 3)) → (vp_in y2 1000 ∧ (∃ (r18 : Int32) (mi16 : Nat → Nat → Int32) (ml17 : Nat → Nat → Int64), call 149 [.int (mi 41 (y2).toNatClampNeg)] (ab_G mi ml) (some (.int r18)) (ab_G mi16 ml17) ∧ (((r18 = 0) → (((3 < (y2 - y4)) → (vp_in y1 1002 ∧ (vp_in y1 1002 ∧ (ab_W call ro 0 0 (ab_lk2 pl_X12_cutAll) Q (17, [some (.ref 40), some (.int (y1 + 1)), some (.int y2), none, none, none, none], [], 0, 0, (ab_G (ab_ui mi16 42 (y1).toNatClampNeg 4) (ab_ul ml17 44 (y1).toNatClampNeg y5))))))) ∧ (¬ (3 < (y2 - y4)) → (vp_in y1 1002 ∧ (vp_in y1 1002 ∧ (ab_W call ro 0 0 (ab_lk2 pl_X12_cutAll) Q (17, [some (.ref 40), some (.int (y1 + 1)), some (.int y2), none, none, none, none], [], 0, 0, (ab_G (ab_ui mi16 42 (y1).toNatClampNeg 2) (ab_ul ml17 44 (y1).toNatClampNeg y5))))))))) ∧ (¬ (r18 = 0) → ((((y2 - y4) < 3) → (vp_in y2 1000 ∧ (ab_W call ro 0 0 (ab_lk2 pl_X12_cutAll) Q (159, [some (.ref 40), some (.int y1), some (.int (y2 + 1)), some (.int y3), some (.int y4), some (.long (((10 * y5) + ((mi16 41 (y2).toNatClampNeg) : Int32).toInt64) - 48)), none], [], 0, 0, (ab_G mi16 ml17))))) ∧ (¬ ((y2 - y4) < 3) → (ab_W call ro 0 0 (ab_lk2 pl_X12_cutAll) Q (159, [some (.ref 40), some (.int y1), some (.int (y2 + 1)), some (.int y3), some (.int y4), some (.long y5), none], [], 0, 0, (ab_G mi16 ml17)))))))))) ∧ (¬ (y2 < (mi 40 3)) → (((3 < (y2 - y4)) → (vp_in y1 1002 ∧ (vp_in y1 1002 ∧ (ab_W call ro 0 0 (ab_lk2 pl_X12_cutAll) Q (17, [some (.ref 40), some (.int (y1 + 1)), some (.int y2), none, none, none, none], [], 0, 0, (ab_G (ab_ui mi 42 (y1).toNatClampNeg 4) (ab_ul ml 44 (y1).toNatClampNeg y5))))))) ∧ (¬ (3 < (y2 - y4)) → (vp_in y1 1002 ∧ (vp_in y1 1002 ∧ (ab_W call ro 0 0 (ab_lk2 pl_X12_cutAll) Q (17, [some (.ref 40), some (.int (y1 + 1)), some (.int y2), none, none, none, none], [], 0, 0, (ab_G (ab_ui mi 42 (y1).toNatClampNeg 2) (ab_ul ml 44 (y1).toNatClampNeg y5)))))))))) :
    ab_W call ro 0 0 (ab_lk2 pl_X12_cutAll) Q (159, [some (.ref 40), some (.int y1), some (.int y2), some (.int y3), some (.int y4), some (.long y5), none], [], 0, 0, ab_G mi ml) := by
  refine ab_wk 4 (f' := (if y2 < (mi 40 3) then 167 else 218, [some (.ref 40), some (.int y1), some (.int y2), some (.int y3), some (.int y4), some (.long y5), none], [], 0, 0, (ab_G mi ml))) rfl ⟨trivial, trivial, trivial, trivial, trivial⟩ ?_
  refine ab_wi (fun c => ?_) (fun c => ?_)
  · have h := h.1 c
    obtain ⟨p0, h⟩ := h
    obtain ⟨r18, mi16, ml17, hc, h⟩ := h
    refine ab_wc 5 (c := 149) (as := [.int (mi 41 (y2).toNatClampNeg)]) (pc := 176) (ll := [some (.ref 40), some (.int y1), some (.int y2), some (.int y3), some (.int y4), some (.long y5), none]) (st := []) (c1 := 0) (s1 := 0) (g := (ab_G mi ml)) rfl ⟨trivial, trivial, trivial, p0, trivial⟩ hc ?_
    refine ab_wk 1 (f' := (if r18 = 0 then 218 else 179, [some (.ref 40), some (.int y1), some (.int y2), some (.int y3), some (.int y4), some (.long y5), none], [], 0, 0, (ab_G mi16 ml17))) rfl ⟨trivial, trivial⟩ ?_
    refine ab_wi (fun c => ?_) (fun c => ?_)
    · have h := h.1 c
      refine ab_wk 8 (f' := (if 3 < (y2 - y4) then 231 else 235, [some (.ref 40), some (.int y1), some (.int y2), some (.int y3), some (.int y4), some (.long y5), none], [.int y1, .ref 42], 0, 0, (ab_G mi16 ml17))) rfl ⟨trivial, trivial, trivial, trivial, trivial, trivial, trivial, trivial, trivial⟩ ?_
      refine ab_wi (fun c => ?_) (fun c => ?_)
      · have h := h.1 c
        obtain ⟨p0, p1, h⟩ := h
        exact ab_wk 11 (f' := (17, [some (.ref 40), some (.int (y1 + 1)), some (.int y2), some (.int y3), some (.int y4), some (.long y5), none], [], 0, 0, (ab_G (ab_ui mi16 42 (y1).toNatClampNeg 4) (ab_ul ml17 44 (y1).toNatClampNeg y5)))) rfl ⟨trivial, trivial, p0, trivial, trivial, trivial, trivial, trivial, p1, trivial, trivial, trivial⟩ (ab_drop h (ab_lrc _ (ab_lrc _ (ab_lrc _ (ab_lrn _ (ab_lrn _ (ab_lrn _ (ab_lrc _ ab_lr0))))))))
      · have h := h.2 c
        obtain ⟨p0, p1, h⟩ := h
        exact ab_wk 10 (f' := (17, [some (.ref 40), some (.int (y1 + 1)), some (.int y2), some (.int y3), some (.int y4), some (.long y5), none], [], 0, 0, (ab_G (ab_ui mi16 42 (y1).toNatClampNeg 2) (ab_ul ml17 44 (y1).toNatClampNeg y5)))) rfl ⟨trivial, p0, trivial, trivial, trivial, trivial, trivial, p1, trivial, trivial, trivial⟩ (ab_drop h (ab_lrc _ (ab_lrc _ (ab_lrc _ (ab_lrn _ (ab_lrn _ (ab_lrn _ (ab_lrc _ ab_lr0))))))))
    · have h := h.2 c
      refine ab_wk 5 (f' := (if (y2 - y4) < 3 then 187 else 208, [some (.ref 40), some (.int y1), some (.int y2), some (.int y3), some (.int y4), some (.long y5), none], [], 0, 0, (ab_G mi16 ml17))) rfl ⟨trivial, trivial, trivial, trivial, trivial, trivial⟩ ?_
      refine ab_wi (fun c => ?_) (fun c => ?_)
      · have h := h.1 c
        obtain ⟨p0, h⟩ := h
        exact ab_wk 15 (f' := (159, [some (.ref 40), some (.int y1), some (.int (y2 + 1)), some (.int y3), some (.int y4), some (.long (((10 * y5) + ((mi16 41 (y2).toNatClampNeg) : Int32).toInt64) - 48)), none], [], 0, 0, (ab_G mi16 ml17))) rfl ⟨trivial, trivial, trivial, trivial, trivial, trivial, p0, trivial, trivial, trivial, trivial, trivial, trivial, trivial, trivial, trivial⟩ h
      · have h := h.2 c
        exact ab_wk 4 (f' := (159, [some (.ref 40), some (.int y1), some (.int (y2 + 1)), some (.int y3), some (.int y4), some (.long y5), none], [], 0, 0, (ab_G mi16 ml17))) rfl ⟨trivial, trivial, trivial, trivial, trivial⟩ h
  · have h := h.2 c
    refine ab_wk 8 (f' := (if 3 < (y2 - y4) then 231 else 235, [some (.ref 40), some (.int y1), some (.int y2), some (.int y3), some (.int y4), some (.long y5), none], [.int y1, .ref 42], 0, 0, (ab_G mi ml))) rfl ⟨trivial, trivial, trivial, trivial, trivial, trivial, trivial, trivial, trivial⟩ ?_
    refine ab_wi (fun c => ?_) (fun c => ?_)
    · have h := h.1 c
      obtain ⟨p0, p1, h⟩ := h
      exact ab_wk 11 (f' := (17, [some (.ref 40), some (.int (y1 + 1)), some (.int y2), some (.int y3), some (.int y4), some (.long y5), none], [], 0, 0, (ab_G (ab_ui mi 42 (y1).toNatClampNeg 4) (ab_ul ml 44 (y1).toNatClampNeg y5)))) rfl ⟨trivial, trivial, p0, trivial, trivial, trivial, trivial, trivial, p1, trivial, trivial, trivial⟩ (ab_drop h (ab_lrc _ (ab_lrc _ (ab_lrc _ (ab_lrn _ (ab_lrn _ (ab_lrn _ (ab_lrc _ ab_lr0))))))))
    · have h := h.2 c
      obtain ⟨p0, p1, h⟩ := h
      exact ab_wk 10 (f' := (17, [some (.ref 40), some (.int (y1 + 1)), some (.int y2), some (.int y3), some (.int y4), some (.long y5), none], [], 0, 0, (ab_G (ab_ui mi 42 (y1).toNatClampNeg 2) (ab_ul ml 44 (y1).toNatClampNeg y5)))) rfl ⟨trivial, p0, trivial, trivial, trivial, trivial, trivial, p1, trivial, trivial, trivial⟩ (ab_drop h (ab_lrc _ (ab_lrc _ (ab_lrc _ (ab_lrn _ (ab_lrn _ (ab_lrn _ (ab_lrc _ ab_lr0))))))))
theorem vc_X12_wrong_0 {call : Nat → List Value → ab_S → Option Value → ab_S → Prop} {ro : ab_E} {Q : Option Value → ab_S → Prop} (x1 : Int32) (mi : Nat → Nat → Int32) (ml : Nat → Nat → Int64)
    (h : (((mi 40 8) = 0) → (vp_in (mi 40 7) 1002 ∧ (Q none (ab_G (ab_ui mi 40 8 (x1 + ((16 : Int32) * (mi 43 ((mi 40 7)).toNatClampNeg)))) ml)))) ∧ (¬ ((mi 40 8) = 0) → (Q none (ab_G mi ml)))) :
    ab_W call ro 0 0 (ab_lk2 pl_X12_wrong) Q (0, [some (.ref 40), some (.int x1)], [], 0, 0, ab_G mi ml) := by
  refine ab_wk 3 (f' := (if (mi 40 8) = 0 then 7 else 25, [some (.ref 40), some (.int x1)], [], 0, 0, (ab_G mi ml))) rfl ⟨trivial, trivial, trivial, trivial⟩ ?_
  refine ab_wi (fun c => ?_) (fun c => ?_)
  · have h := h.1 c
    obtain ⟨p0, h⟩ := h
    exact ab_wr 12 rfl ⟨trivial, trivial, trivial, trivial, trivial, trivial, trivial, p0, trivial, trivial, trivial, trivial⟩ h
  · have h := h.2 c
    exact ab_wr 1 rfl trivial h
theorem vc_X12_isSign_0 {call : Nat → List Value → ab_S → Option Value → ab_S → Prop} {ro : ab_E} {Q : Option Value → ab_S → Prop} (x1 : Int32) (mi : Nat → Nat → Int32) (ml : Nat → Nat → Int64)
    (h : (((mi 40 8) = 0) → (vp_in (mi 40 7) 1002 ∧ ((((mi 42 ((mi 40 7)).toNatClampNeg) = 3) → (vp_in (mi 40 7) 1002 ∧ ((((lg_cmp (ml 44 ((mi 40 7)).toNatClampNeg) (x1 : Int32).toInt64) = 0) → (Q (some (.int 1)) (ab_G mi ml))) ∧ (¬ ((lg_cmp (ml 44 ((mi 40 7)).toNatClampNeg) (x1 : Int32).toInt64) = 0) → (Q (some (.int 0)) (ab_G mi ml)))))) ∧ (¬ ((mi 42 ((mi 40 7)).toNatClampNeg) = 3) → (Q (some (.int 0)) (ab_G mi ml)))))) ∧ (¬ ((mi 40 8) = 0) → (Q (some (.int 0)) (ab_G mi ml)))) :
    ab_W call ro 0 0 (ab_lk2 pl_X12_isSign) Q (0, [some (.ref 40), some (.int x1)], [], 0, 0, ab_G mi ml) := by
  refine ab_wk 3 (f' := (if (mi 40 8) = 0 then 7 else 39, [some (.ref 40), some (.int x1)], [], 0, 0, (ab_G mi ml))) rfl ⟨trivial, trivial, trivial, trivial⟩ ?_
  refine ab_wi (fun c => ?_) (fun c => ?_)
  · have h := h.1 c
    obtain ⟨p0, h⟩ := h
    refine ab_wk 7 (f' := (if (mi 42 ((mi 40 7)).toNatClampNeg) = 3 then 20 else 39, [some (.ref 40), some (.int x1)], [], 0, 0, (ab_G mi ml))) rfl ⟨trivial, trivial, trivial, trivial, p0, trivial, trivial, trivial⟩ ?_
    refine ab_wi (fun c => ?_) (fun c => ?_)
    · have h := h.1 c
      obtain ⟨p0, h⟩ := h
      refine ab_wk 9 (f' := (if (lg_cmp (ml 44 ((mi 40 7)).toNatClampNeg) (x1 : Int32).toInt64) = 0 then 35 else 39, [some (.ref 40), some (.int x1)], [], 0, 0, (ab_G mi ml))) rfl ⟨trivial, trivial, trivial, trivial, p0, trivial, trivial, trivial, trivial, trivial⟩ ?_
      refine ab_wi (fun c => ?_) (fun c => ?_)
      · have h := h.1 c
        exact ab_wr 3 rfl ⟨trivial, trivial, (Or.inr rfl)⟩ h
      · have h := h.2 c
        exact ab_wr 2 rfl ⟨trivial, (Or.inl rfl)⟩ h
    · have h := h.2 c
      exact ab_wr 2 rfl ⟨trivial, (Or.inl rfl)⟩ h
  · have h := h.2 c
    exact ab_wr 2 rfl ⟨trivial, (Or.inl rfl)⟩ h
theorem vc_X12_isWord_0 {call : Nat → List Value → ab_S → Option Value → ab_S → Prop} {ro : ab_E} {Q : Option Value → ab_S → Prop} (x1 : Int32) (mi : Nat → Nat → Int32) (ml : Nat → Nat → Int64)
    (h : (((mi 40 8) = 0) → (vp_in (mi 40 7) 1002 ∧ ((((mi 42 ((mi 40 7)).toNatClampNeg) = 1) → (vp_in (mi 40 7) 1002 ∧ (vp_in x1 22 ∧ ((((lg_cmp (ml 44 ((mi 40 7)).toNatClampNeg) (ml 45 (x1).toNatClampNeg)) = 0) → (Q (some (.int 1)) (ab_G mi ml))) ∧ (¬ ((lg_cmp (ml 44 ((mi 40 7)).toNatClampNeg) (ml 45 (x1).toNatClampNeg)) = 0) → (Q (some (.int 0)) (ab_G mi ml))))))) ∧ (¬ ((mi 42 ((mi 40 7)).toNatClampNeg) = 1) → (Q (some (.int 0)) (ab_G mi ml)))))) ∧ (¬ ((mi 40 8) = 0) → (Q (some (.int 0)) (ab_G mi ml)))) :
    ab_W call ro 0 0 (ab_lk2 pl_X12_isWord) Q (0, [some (.ref 40), some (.int x1)], [], 0, 0, ab_G mi ml) := by
  refine ab_wk 3 (f' := (if (mi 40 8) = 0 then 7 else 43, [some (.ref 40), some (.int x1)], [], 0, 0, (ab_G mi ml))) rfl ⟨trivial, trivial, trivial, trivial⟩ ?_
  refine ab_wi (fun c => ?_) (fun c => ?_)
  · have h := h.1 c
    obtain ⟨p0, h⟩ := h
    refine ab_wk 7 (f' := (if (mi 42 ((mi 40 7)).toNatClampNeg) = 1 then 20 else 43, [some (.ref 40), some (.int x1)], [], 0, 0, (ab_G mi ml))) rfl ⟨trivial, trivial, trivial, trivial, p0, trivial, trivial, trivial⟩ ?_
    refine ab_wi (fun c => ?_) (fun c => ?_)
    · have h := h.1 c
      obtain ⟨p0, p1, h⟩ := h
      refine ab_wk 11 (f' := (if (lg_cmp (ml 44 ((mi 40 7)).toNatClampNeg) (ml 45 (x1).toNatClampNeg)) = 0 then 39 else 43, [some (.ref 40), some (.int x1)], [], 0, 0, (ab_G mi ml))) rfl ⟨trivial, trivial, trivial, trivial, p0, trivial, trivial, trivial, p1, trivial, trivial, trivial⟩ ?_
      refine ab_wi (fun c => ?_) (fun c => ?_)
      · have h := h.1 c
        exact ab_wr 3 rfl ⟨trivial, trivial, (Or.inr rfl)⟩ h
      · have h := h.2 c
        exact ab_wr 2 rfl ⟨trivial, (Or.inl rfl)⟩ h
    · have h := h.2 c
      exact ab_wr 2 rfl ⟨trivial, (Or.inl rfl)⟩ h
  · have h := h.2 c
    exact ab_wr 2 rfl ⟨trivial, (Or.inl rfl)⟩ h
theorem vc_X12_takeSign_0 {call : Nat → List Value → ab_S → Option Value → ab_S → Prop} {ro : ab_E} {Q : Option Value → ab_S → Prop} (x1 : Int32) (mi : Nat → Nat → Int32) (ml : Nat → Nat → Int64)
    (h : ∃ (r3 : Int32) (mi1 : Nat → Nat → Int32) (ml2 : Nat → Nat → Int64), call 154 [.ref 40, .int x1] (ab_G mi ml) (some (.int r3)) (ab_G mi1 ml2) ∧ (((r3 = 0) → (∃ (mi4 : Nat → Nat → Int32) (ml5 : Nat → Nat → Int64), call 153 [.ref 40, .int 1] (ab_G mi1 ml2) none (ab_G mi4 ml5) ∧ (Q none (ab_G mi4 ml5)))) ∧ (¬ (r3 = 0) → (Q none (ab_G (ab_ui mi1 40 7 ((mi1 40 7) + 1)) ml2))))) :
    ab_W call ro 0 0 (ab_lk2 pl_X12_takeSign) Q (0, [some (.ref 40), some (.int x1)], [], 0, 0, ab_G mi ml) := by
  obtain ⟨r3, mi1, ml2, hc, h⟩ := h
  refine ab_wc 3 (c := 154) (as := [.ref 40, .int x1]) (pc := 5) (ll := [some (.ref 40), some (.int x1)]) (st := []) (c1 := 0) (s1 := 0) (g := (ab_G mi ml)) rfl ⟨trivial, trivial, trivial⟩ hc ?_
  refine ab_wk 1 (f' := (if r3 = 0 then 21 else 8, [some (.ref 40), some (.int x1)], [], 0, 0, (ab_G mi1 ml2))) rfl ⟨trivial, trivial⟩ ?_
  refine ab_wi (fun c => ?_) (fun c => ?_)
  · have h := h.1 c
    obtain ⟨mi4, ml5, hc, h⟩ := h
    refine ab_wc 3 (c := 153) (as := [.ref 40, .int 1]) (pc := 26) (ll := [some (.ref 40), some (.int x1)]) (st := []) (c1 := 0) (s1 := 0) (g := (ab_G mi1 ml2)) rfl ⟨trivial, trivial, trivial⟩ hc ?_
    exact ab_wr 1 rfl trivial h
  · have h := h.2 c
    exact ab_wr 8 rfl ⟨trivial, trivial, trivial, trivial, trivial, trivial, trivial, trivial⟩ h
theorem vc_X12_hasSign_0 {call : Nat → List Value → ab_S → Option Value → ab_S → Prop} {ro : ab_E} {Q : Option Value → ab_S → Prop} (x1 : Int32) (mi : Nat → Nat → Int32) (ml : Nat → Nat → Int64)
    (h : ∃ (r3 : Int32) (mi1 : Nat → Nat → Int32) (ml2 : Nat → Nat → Int64), call 154 [.ref 40, .int x1] (ab_G mi ml) (some (.int r3)) (ab_G mi1 ml2) ∧ (((r3 = 0) → ((r3 = 0 ∨ r3 = 1) ∧ (Q (some (.int r3)) (ab_G (ab_ui mi1 40 7 ((mi1 40 7) + 0)) ml2)))) ∧ (¬ (r3 = 0) → ((r3 = 0 ∨ r3 = 1) ∧ (Q (some (.int r3)) (ab_G (ab_ui mi1 40 7 ((mi1 40 7) + 1)) ml2)))))) :
    ab_W call ro 0 0 (ab_lk2 pl_X12_hasSign) Q (0, [some (.ref 40), some (.int x1), none], [], 0, 0, ab_G mi ml) := by
  obtain ⟨r3, mi1, ml2, hc, h⟩ := h
  refine ab_wc 3 (c := 154) (as := [.ref 40, .int x1]) (pc := 5) (ll := [some (.ref 40), some (.int x1), none]) (st := []) (c1 := 0) (s1 := 0) (g := (ab_G mi ml)) rfl ⟨trivial, trivial, trivial⟩ hc ?_
  refine ab_wk 6 (f' := (if r3 = 0 then 19 else 15, [some (.ref 40), some (.int x1), some (.int r3)], [.int (mi1 40 7), .ref 40], 0, 0, (ab_G mi1 ml2))) rfl ⟨trivial, trivial, trivial, trivial, trivial, trivial, trivial⟩ ?_
  refine ab_wi (fun c => ?_) (fun c => ?_)
  · have h := h.1 c
    obtain ⟨p0, h⟩ := h
    exact ab_wr 5 rfl ⟨trivial, trivial, trivial, trivial, p0⟩ h
  · have h := h.2 c
    obtain ⟨p0, h⟩ := h
    exact ab_wr 6 rfl ⟨trivial, trivial, trivial, trivial, trivial, p0⟩ h
theorem vc_X12_hasWord_0 {call : Nat → List Value → ab_S → Option Value → ab_S → Prop} {ro : ab_E} {Q : Option Value → ab_S → Prop} (x1 : Int32) (mi : Nat → Nat → Int32) (ml : Nat → Nat → Int64)
    (h : ∃ (r3 : Int32) (mi1 : Nat → Nat → Int32) (ml2 : Nat → Nat → Int64), call 155 [.ref 40, .int x1] (ab_G mi ml) (some (.int r3)) (ab_G mi1 ml2) ∧ (((r3 = 0) → ((r3 = 0 ∨ r3 = 1) ∧ (Q (some (.int r3)) (ab_G (ab_ui mi1 40 7 ((mi1 40 7) + 0)) ml2)))) ∧ (¬ (r3 = 0) → ((r3 = 0 ∨ r3 = 1) ∧ (Q (some (.int r3)) (ab_G (ab_ui mi1 40 7 ((mi1 40 7) + 1)) ml2)))))) :
    ab_W call ro 0 0 (ab_lk2 pl_X12_hasWord) Q (0, [some (.ref 40), some (.int x1), none], [], 0, 0, ab_G mi ml) := by
  obtain ⟨r3, mi1, ml2, hc, h⟩ := h
  refine ab_wc 3 (c := 155) (as := [.ref 40, .int x1]) (pc := 5) (ll := [some (.ref 40), some (.int x1), none]) (st := []) (c1 := 0) (s1 := 0) (g := (ab_G mi ml)) rfl ⟨trivial, trivial, trivial⟩ hc ?_
  refine ab_wk 6 (f' := (if r3 = 0 then 19 else 15, [some (.ref 40), some (.int x1), some (.int r3)], [.int (mi1 40 7), .ref 40], 0, 0, (ab_G mi1 ml2))) rfl ⟨trivial, trivial, trivial, trivial, trivial, trivial, trivial⟩ ?_
  refine ab_wi (fun c => ?_) (fun c => ?_)
  · have h := h.1 c
    obtain ⟨p0, h⟩ := h
    exact ab_wr 5 rfl ⟨trivial, trivial, trivial, trivial, p0⟩ h
  · have h := h.2 c
    obtain ⟨p0, h⟩ := h
    exact ab_wr 6 rfl ⟨trivial, trivial, trivial, trivial, trivial, p0⟩ h
theorem vc_X12_takeWord_0 {call : Nat → List Value → ab_S → Option Value → ab_S → Prop} {ro : ab_E} {Q : Option Value → ab_S → Prop} (x1 : Int32) (mi : Nat → Nat → Int32) (ml : Nat → Nat → Int64)
    (h : ∃ (r3 : Int32) (mi1 : Nat → Nat → Int32) (ml2 : Nat → Nat → Int64), call 158 [.ref 40, .int x1] (ab_G mi ml) (some (.int r3)) (ab_G mi1 ml2) ∧ (((r3 = 0) → (∃ (mi4 : Nat → Nat → Int32) (ml5 : Nat → Nat → Int64), call 153 [.ref 40, .int 1] (ab_G mi1 ml2) none (ab_G mi4 ml5) ∧ (Q none (ab_G mi4 ml5)))) ∧ (¬ (r3 = 0) → (Q none (ab_G mi1 ml2))))) :
    ab_W call ro 0 0 (ab_lk2 pl_X12_takeWord) Q (0, [some (.ref 40), some (.int x1)], [], 0, 0, ab_G mi ml) := by
  obtain ⟨r3, mi1, ml2, hc, h⟩ := h
  refine ab_wc 3 (c := 158) (as := [.ref 40, .int x1]) (pc := 5) (ll := [some (.ref 40), some (.int x1)]) (st := []) (c1 := 0) (s1 := 0) (g := (ab_G mi ml)) rfl ⟨trivial, trivial, trivial⟩ hc ?_
  refine ab_wk 1 (f' := (if r3 = 0 then 8 else 13, [some (.ref 40), some (.int x1)], [], 0, 0, (ab_G mi1 ml2))) rfl ⟨trivial, trivial⟩ ?_
  refine ab_wi (fun c => ?_) (fun c => ?_)
  · have h := h.1 c
    obtain ⟨mi4, ml5, hc, h⟩ := h
    refine ab_wc 3 (c := 153) (as := [.ref 40, .int 1]) (pc := 13) (ll := [some (.ref 40), some (.int x1)]) (st := []) (c1 := 0) (s1 := 0) (g := (ab_G mi1 ml2)) rfl ⟨trivial, trivial, trivial⟩ hc ?_
    exact ab_wr 1 rfl trivial h
  · have h := h.2 c
    exact ab_wr 1 rfl trivial h
theorem vc_X12_isIn_0 {call : Nat → List Value → ab_S → Option Value → ab_S → Prop} {ro : ab_E} {Q : Option Value → ab_S → Prop} (x0 : Int64) (x2 : Int64) (x4 : Int32) (mi : Nat → Nat → Int32) (ml : Nat → Nat → Int64)
    (h : ((x4 < 64) → ((((lg_cmp ((x0 >>> ((x4).toInt64 &&& 63)) &&& 1) 1) = 0) → (Q (some (.int 1)) (ab_G mi ml))) ∧ (¬ ((lg_cmp ((x0 >>> ((x4).toInt64 &&& 63)) &&& 1) 1) = 0) → (Q (some (.int 0)) (ab_G mi ml))))) ∧ (¬ (x4 < 64) → ((((lg_cmp ((x2 >>> (((x4 - 64)).toInt64 &&& 63)) &&& 1) 1) = 0) → (Q (some (.int 1)) (ab_G mi ml))) ∧ (¬ ((lg_cmp ((x2 >>> (((x4 - 64)).toInt64 &&& 63)) &&& 1) 1) = 0) → (Q (some (.int 0)) (ab_G mi ml)))))) :
    ab_W call ro 0 0 (ab_lk2 pl_X12_isIn) Q (0, [some (.long x0), none, some (.long x2), none, some (.int x4)], [], 0, 0, ab_G mi ml) := by
  refine ab_wk 3 (f' := (if x4 < 64 then 7 else 14, [some (.long x0), none, some (.long x2), none, some (.int x4)], [], 0, 0, (ab_G mi ml))) rfl ⟨trivial, trivial, trivial, trivial⟩ ?_
  refine ab_wi (fun c => ?_) (fun c => ?_)
  · have h := h.1 c
    refine ab_wk 9 (f' := (if (lg_cmp ((x0 >>> ((x4).toInt64 &&& 63)) &&& 1) 1) = 0 then 28 else 32, [some (.long x0), none, some (.long x2), none, some (.int x4)], [], 0, 0, (ab_G mi ml))) rfl ⟨trivial, trivial, trivial, trivial, trivial, trivial, trivial, trivial, trivial, trivial⟩ ?_
    refine ab_wi (fun c => ?_) (fun c => ?_)
    · have h := h.1 c
      exact ab_wr 3 rfl ⟨trivial, trivial, (Or.inr rfl)⟩ h
    · have h := h.2 c
      exact ab_wr 2 rfl ⟨trivial, (Or.inl rfl)⟩ h
  · have h := h.2 c
    refine ab_wk 10 (f' := (if (lg_cmp ((x2 >>> (((x4 - 64)).toInt64 &&& 63)) &&& 1) 1) = 0 then 28 else 32, [some (.long x0), none, some (.long x2), none, some (.int x4)], [], 0, 0, (ab_G mi ml))) rfl ⟨trivial, trivial, trivial, trivial, trivial, trivial, trivial, trivial, trivial, trivial, trivial⟩ ?_
    refine ab_wi (fun c => ?_) (fun c => ?_)
    · have h := h.1 c
      exact ab_wr 3 rfl ⟨trivial, trivial, (Or.inr rfl)⟩ h
    · have h := h.2 c
      exact ab_wr 2 rfl ⟨trivial, (Or.inl rfl)⟩ h
theorem vc_X12_bits_0 {call : Nat → List Value → ab_S → Option Value → ab_S → Prop} {ro : ab_E} {Q : Option Value → ab_S → Prop} (x0 : Int32) (mi : Nat → Nat → Int32) (ml : Nat → Nat → Int64)
    (h : ab_W call ro 0 0 (ab_lk2 pl_X12_bits) Q (4, [some (.int x0), some (.int 0), some (.int 0)], [], 0, 0, (ab_G mi ml))) :
    ab_W call ro 0 0 (ab_lk2 pl_X12_bits) Q (0, [some (.int x0), none, none], [], 0, 0, ab_G mi ml) := by
  exact ab_wk 4 (f' := (4, [some (.int x0), some (.int 0), some (.int 0)], [], 0, 0, (ab_G mi ml))) rfl ⟨trivial, trivial, trivial, trivial, trivial⟩ h
theorem vc_X12_bits_4 {call : Nat → List Value → ab_S → Option Value → ab_S → Prop} {ro : ab_E} {Q : Option Value → ab_S → Prop} (y0 : Int32) (y1 : Int32) (y2 : Int32) (mi : Nat → Nat → Int32) (ml : Nat → Nat → Int64)
    (h : ((y2 < 30) → (ab_W call ro 0 0 (ab_lk2 pl_X12_bits) Q (4, [some (.int y0), some (.int (y1 + ((y0 >>> (y2 &&& 31)) &&& 1))), some (.int (y2 + 1))], [], 0, 0, (ab_G mi ml)))) ∧ (¬ (y2 < 30) → (Q (some (.int y1)) (ab_G mi ml)))) :
    ab_W call ro 0 0 (ab_lk2 pl_X12_bits) Q (4, [some (.int y0), some (.int y1), some (.int y2)], [], 0, 0, ab_G mi ml) := by
  refine ab_wk 3 (f' := (if y2 < 30 then 10 else 24, [some (.int y0), some (.int y1), some (.int y2)], [], 0, 0, (ab_G mi ml))) rfl ⟨trivial, trivial, trivial, trivial⟩ ?_
  refine ab_wi (fun c => ?_) (fun c => ?_)
  · have h := h.1 c
    exact ab_wk 10 (f' := (4, [some (.int y0), some (.int (y1 + ((y0 >>> (y2 &&& 31)) &&& 1))), some (.int (y2 + 1))], [], 0, 0, (ab_G mi ml))) rfl ⟨trivial, trivial, trivial, trivial, trivial, trivial, trivial, trivial, trivial, trivial, trivial⟩ h
  · have h := h.2 c
    exact ab_wr 2 rfl ⟨trivial, trivial⟩ h
theorem vc_X12_counts_0 {call : Nat → List Value → ab_S → Option Value → ab_S → Prop} {ro : ab_E} {Q : Option Value → ab_S → Prop} (x1 : Int32) (x2 : Int32) (x3 : Int32) (mi : Nat → Nat → Int32) (ml : Nat → Nat → Int64)
    (h : ab_W call ro 0 0 (ab_lk2 pl_X12_counts) Q (13, [some (.ref 40), some (.int x1), some (.int x2), some (.int x3), some (.int 0), none, none, none], [], 0, 0, (ab_G mi (ab_ul (ab_ul ml 40 10 0) 40 11 0)))) :
    ab_W call ro 0 0 (ab_lk2 pl_X12_counts) Q (0, [some (.ref 40), some (.int x1), some (.int x2), some (.int x3), none, none, none, none], [], 0, 0, ab_G mi ml) := by
  exact ab_wk 8 (f' := (13, [some (.ref 40), some (.int x1), some (.int x2), some (.int x3), some (.int 0), none, none, none], [], 0, 0, (ab_G mi (ab_ul (ab_ul ml 40 10 0) 40 11 0)))) rfl ⟨trivial, trivial, trivial, trivial, trivial, trivial, trivial, trivial, trivial⟩ h
theorem vc_X12_counts_13 {call : Nat → List Value → ab_S → Option Value → ab_S → Prop} {ro : ab_E} {Q : Option Value → ab_S → Prop} (y1 : Int32) (y2 : Int32) (y3 : Int32) (y4 : Int32) (mi : Nat → Nat → Int32) (ml : Nat → Nat → Int64)
    (h : ((y4 < 128) → (∃ (r3 : Int32) (mi1 : Nat → Nat → Int32) (ml2 : Nat → Nat → Int64), call 161 [.int (y4 &&& y1)] (ab_G mi ml) (some (.int r3)) (ab_G mi1 ml2) ∧ (((y3 = 0) → (((r3 < y2) → (((y4 < 64) → (((y4 < 64) → (ab_W call ro 0 0 (ab_lk2 pl_X12_counts) Q (13, [some (.ref 40), some (.int y1), some (.int y2), some (.int y3), some (.int (y4 + 1)), none, none, none], [], 0, 0, (ab_G mi1 (ab_ul (ab_ul ml2 40 10 ((ml2 40 10) ||| ((0 : Int64) <<< ((y4).toInt64 &&& 63)))) 40 11 ((ml2 40 11) ||| 0)))))) ∧ (¬ (y4 < 64) → (ab_W call ro 0 0 (ab_lk2 pl_X12_counts) Q (13, [some (.ref 40), some (.int y1), some (.int y2), some (.int y3), some (.int (y4 + 1)), none, none, none], [], 0, 0, (ab_G mi1 (ab_ul (ab_ul ml2 40 10 ((ml2 40 10) ||| ((0 : Int64) <<< ((y4).toInt64 &&& 63)))) 40 11 ((ml2 40 11) ||| ((0 : Int64) <<< (((y4 - 64)).toInt64 &&& 63)))))))))) ∧ (¬ (y4 < 64) → (((y4 < 64) → (ab_W call ro 0 0 (ab_lk2 pl_X12_counts) Q (13, [some (.ref 40), some (.int y1), some (.int y2), some (.int y3), some (.int (y4 + 1)), none, none, none], [], 0, 0, (ab_G mi1 (ab_ul (ab_ul ml2 40 10 ((ml2 40 10) ||| 0)) 40 11 ((ml2 40 11) ||| 0)))))) ∧ (¬ (y4 < 64) → (ab_W call ro 0 0 (ab_lk2 pl_X12_counts) Q (13, [some (.ref 40), some (.int y1), some (.int y2), some (.int y3), some (.int (y4 + 1)), none, none, none], [], 0, 0, (ab_G mi1 (ab_ul (ab_ul ml2 40 10 ((ml2 40 10) ||| 0)) 40 11 ((ml2 40 11) ||| ((0 : Int64) <<< (((y4 - 64)).toInt64 &&& 63)))))))))))) ∧ (¬ (r3 < y2) → (((y4 < 64) → (((y4 < 64) → (ab_W call ro 0 0 (ab_lk2 pl_X12_counts) Q (13, [some (.ref 40), some (.int y1), some (.int y2), some (.int y3), some (.int (y4 + 1)), none, none, none], [], 0, 0, (ab_G mi1 (ab_ul (ab_ul ml2 40 10 ((ml2 40 10) ||| ((1 : Int64) <<< ((y4).toInt64 &&& 63)))) 40 11 ((ml2 40 11) ||| 0)))))) ∧ (¬ (y4 < 64) → (ab_W call ro 0 0 (ab_lk2 pl_X12_counts) Q (13, [some (.ref 40), some (.int y1), some (.int y2), some (.int y3), some (.int (y4 + 1)), none, none, none], [], 0, 0, (ab_G mi1 (ab_ul (ab_ul ml2 40 10 ((ml2 40 10) ||| ((1 : Int64) <<< ((y4).toInt64 &&& 63)))) 40 11 ((ml2 40 11) ||| ((1 : Int64) <<< (((y4 - 64)).toInt64 &&& 63)))))))))) ∧ (¬ (y4 < 64) → (((y4 < 64) → (ab_W call ro 0 0 (ab_lk2 pl_X12_counts) Q (13, [some (.ref 40), some (.int y1), some (.int y2), some (.int y3), some (.int (y4 + 1)), none, none, none], [], 0, 0, (ab_G mi1 (ab_ul (ab_ul ml2 40 10 ((ml2 40 10) ||| 0)) 40 11 ((ml2 40 11) ||| 0)))))) ∧ (¬ (y4 < 64) → (ab_W call ro 0 0 (ab_lk2 pl_X12_counts) Q (13, [some (.ref 40), some (.int y1), some (.int y2), some (.int y3), some (.int (y4 + 1)), none, none, none], [], 0, 0, (ab_G mi1 (ab_ul (ab_ul ml2 40 10 ((ml2 40 10) ||| 0)) 40 11 ((ml2 40 11) ||| ((1 : Int64) <<< (((y4 - 64)).toInt64 &&& 63)))))))))))))) ∧ (¬ (y3 = 0) → (((y2 < r3) → (((y4 < 64) → (((y4 < 64) → (ab_W call ro 0 0 (ab_lk2 pl_X12_counts) Q (13, [some (.ref 40), some (.int y1), some (.int y2), some (.int y3), some (.int (y4 + 1)), none, none, none], [], 0, 0, (ab_G mi1 (ab_ul (ab_ul ml2 40 10 ((ml2 40 10) ||| ((0 : Int64) <<< ((y4).toInt64 &&& 63)))) 40 11 ((ml2 40 11) ||| 0)))))) ∧ (¬ (y4 < 64) → (ab_W call ro 0 0 (ab_lk2 pl_X12_counts) Q (13, [some (.ref 40), some (.int y1), some (.int y2), some (.int y3), some (.int (y4 + 1)), none, none, none], [], 0, 0, (ab_G mi1 (ab_ul (ab_ul ml2 40 10 ((ml2 40 10) ||| ((0 : Int64) <<< ((y4).toInt64 &&& 63)))) 40 11 ((ml2 40 11) ||| ((0 : Int64) <<< (((y4 - 64)).toInt64 &&& 63)))))))))) ∧ (¬ (y4 < 64) → (((y4 < 64) → (ab_W call ro 0 0 (ab_lk2 pl_X12_counts) Q (13, [some (.ref 40), some (.int y1), some (.int y2), some (.int y3), some (.int (y4 + 1)), none, none, none], [], 0, 0, (ab_G mi1 (ab_ul (ab_ul ml2 40 10 ((ml2 40 10) ||| 0)) 40 11 ((ml2 40 11) ||| 0)))))) ∧ (¬ (y4 < 64) → (ab_W call ro 0 0 (ab_lk2 pl_X12_counts) Q (13, [some (.ref 40), some (.int y1), some (.int y2), some (.int y3), some (.int (y4 + 1)), none, none, none], [], 0, 0, (ab_G mi1 (ab_ul (ab_ul ml2 40 10 ((ml2 40 10) ||| 0)) 40 11 ((ml2 40 11) ||| ((0 : Int64) <<< (((y4 - 64)).toInt64 &&& 63)))))))))))) ∧ (¬ (y2 < r3) → (((y4 < 64) → (((y4 < 64) → (ab_W call ro 0 0 (ab_lk2 pl_X12_counts) Q (13, [some (.ref 40), some (.int y1), some (.int y2), some (.int y3), some (.int (y4 + 1)), none, none, none], [], 0, 0, (ab_G mi1 (ab_ul (ab_ul ml2 40 10 ((ml2 40 10) ||| ((1 : Int64) <<< ((y4).toInt64 &&& 63)))) 40 11 ((ml2 40 11) ||| 0)))))) ∧ (¬ (y4 < 64) → (ab_W call ro 0 0 (ab_lk2 pl_X12_counts) Q (13, [some (.ref 40), some (.int y1), some (.int y2), some (.int y3), some (.int (y4 + 1)), none, none, none], [], 0, 0, (ab_G mi1 (ab_ul (ab_ul ml2 40 10 ((ml2 40 10) ||| ((1 : Int64) <<< ((y4).toInt64 &&& 63)))) 40 11 ((ml2 40 11) ||| ((1 : Int64) <<< (((y4 - 64)).toInt64 &&& 63)))))))))) ∧ (¬ (y4 < 64) → (((y4 < 64) → (ab_W call ro 0 0 (ab_lk2 pl_X12_counts) Q (13, [some (.ref 40), some (.int y1), some (.int y2), some (.int y3), some (.int (y4 + 1)), none, none, none], [], 0, 0, (ab_G mi1 (ab_ul (ab_ul ml2 40 10 ((ml2 40 10) ||| 0)) 40 11 ((ml2 40 11) ||| 0)))))) ∧ (¬ (y4 < 64) → (ab_W call ro 0 0 (ab_lk2 pl_X12_counts) Q (13, [some (.ref 40), some (.int y1), some (.int y2), some (.int y3), some (.int (y4 + 1)), none, none, none], [], 0, 0, (ab_G mi1 (ab_ul (ab_ul ml2 40 10 ((ml2 40 10) ||| 0)) 40 11 ((ml2 40 11) ||| ((1 : Int64) <<< (((y4 - 64)).toInt64 &&& 63))))))))))))))))) ∧ (¬ (y4 < 128) → (Q none (ab_G mi ml)))) :
    ab_W call ro 0 0 (ab_lk2 pl_X12_counts) Q (13, [some (.ref 40), some (.int y1), some (.int y2), some (.int y3), some (.int y4), none, none, none], [], 0, 0, ab_G mi ml) := by
  refine ab_wk 3 (f' := (if y4 < 128 then 21 else 115, [some (.ref 40), some (.int y1), some (.int y2), some (.int y3), some (.int y4), none, none, none], [], 0, 0, (ab_G mi ml))) rfl ⟨trivial, trivial, trivial, trivial⟩ ?_
  refine ab_wi (fun c => ?_) (fun c => ?_)
  · have h := h.1 c
    obtain ⟨r3, mi1, ml2, hc, h⟩ := h
    refine ab_wc 4 (c := 161) (as := [.int (y4 &&& y1)]) (pc := 28) (ll := [some (.ref 40), some (.int y1), some (.int y2), some (.int y3), some (.int y4), none, none, none]) (st := []) (c1 := 0) (s1 := 0) (g := (ab_G mi ml)) rfl ⟨trivial, trivial, trivial, trivial⟩ hc ?_
    refine ab_wk 3 (f' := (if y3 = 0 then 43 else 34, [some (.ref 40), some (.int y1), some (.int y2), some (.int y3), some (.int y4), some (.int r3), none, none], [], 0, 0, (ab_G mi1 ml2))) rfl ⟨trivial, trivial, trivial, trivial⟩ ?_
    refine ab_wi (fun c => ?_) (fun c => ?_)
    · have h := h.1 c
      refine ab_wk 3 (f' := (if r3 < y2 then 53 else 49, [some (.ref 40), some (.int y1), some (.int y2), some (.int y3), some (.int y4), some (.int r3), none, none], [], 0, 0, (ab_G mi1 ml2))) rfl ⟨trivial, trivial, trivial, trivial⟩ ?_
      refine ab_wi (fun c => ?_) (fun c => ?_)
      · have h := h.1 c
        refine ab_wk 8 (f' := (if y4 < 64 then 68 else 76, [some (.ref 40), some (.int y1), some (.int y2), some (.int y3), some (.int y4), some (.int r3), some (.long 0), none], [.long (ml2 40 10), .ref 40], 0, 0, (ab_G mi1 ml2))) rfl ⟨trivial, trivial, trivial, trivial, trivial, trivial, trivial, trivial, trivial⟩ ?_
        refine ab_wi (fun c => ?_) (fun c => ?_)
        · have h := h.1 c
          refine ab_wk 12 (f' := (if y4 < 64 then 93 else 97, [some (.ref 40), some (.int y1), some (.int y2), some (.int y3), some (.int y4), some (.int r3), some (.long 0), none], [.long (ml2 40 11), .ref 40], 0, 0, (ab_G mi1 (ab_ul ml2 40 10 ((ml2 40 10) ||| ((0 : Int64) <<< ((y4).toInt64 &&& 63))))))) rfl ⟨trivial, trivial, trivial, trivial, trivial, trivial, trivial, trivial, trivial, trivial, trivial, trivial, trivial⟩ ?_
          refine ab_wi (fun c => ?_) (fun c => ?_)
          · have h := h.1 c
            exact ab_wk 6 (f' := (13, [some (.ref 40), some (.int y1), some (.int y2), some (.int y3), some (.int (y4 + 1)), some (.int r3), some (.long 0), none], [], 0, 0, (ab_G mi1 (ab_ul (ab_ul ml2 40 10 ((ml2 40 10) ||| ((0 : Int64) <<< ((y4).toInt64 &&& 63)))) 40 11 ((ml2 40 11) ||| 0))))) rfl ⟨trivial, trivial, trivial, trivial, trivial, trivial, trivial⟩ (ab_drop h (ab_lrc _ (ab_lrc _ (ab_lrc _ (ab_lrc _ (ab_lrc _ (ab_lrn _ (ab_lrn _ (ab_lrc _ ab_lr0)))))))))
          · have h := h.2 c
            exact ab_wk 9 (f' := (13, [some (.ref 40), some (.int y1), some (.int y2), some (.int y3), some (.int (y4 + 1)), some (.int r3), some (.long 0), none], [], 0, 0, (ab_G mi1 (ab_ul (ab_ul ml2 40 10 ((ml2 40 10) ||| ((0 : Int64) <<< ((y4).toInt64 &&& 63)))) 40 11 ((ml2 40 11) ||| ((0 : Int64) <<< (((y4 - 64)).toInt64 &&& 63))))))) rfl ⟨trivial, trivial, trivial, trivial, trivial, trivial, trivial, trivial, trivial, trivial⟩ (ab_drop h (ab_lrc _ (ab_lrc _ (ab_lrc _ (ab_lrc _ (ab_lrc _ (ab_lrn _ (ab_lrn _ (ab_lrc _ ab_lr0)))))))))
        · have h := h.2 c
          refine ab_wk 9 (f' := (if y4 < 64 then 93 else 97, [some (.ref 40), some (.int y1), some (.int y2), some (.int y3), some (.int y4), some (.int r3), some (.long 0), none], [.long (ml2 40 11), .ref 40], 0, 0, (ab_G mi1 (ab_ul ml2 40 10 ((ml2 40 10) ||| 0))))) rfl ⟨trivial, trivial, trivial, trivial, trivial, trivial, trivial, trivial, trivial, trivial⟩ ?_
          refine ab_wi (fun c => ?_) (fun c => ?_)
          · have h := h.1 c
            exact ab_wk 6 (f' := (13, [some (.ref 40), some (.int y1), some (.int y2), some (.int y3), some (.int (y4 + 1)), some (.int r3), some (.long 0), none], [], 0, 0, (ab_G mi1 (ab_ul (ab_ul ml2 40 10 ((ml2 40 10) ||| 0)) 40 11 ((ml2 40 11) ||| 0))))) rfl ⟨trivial, trivial, trivial, trivial, trivial, trivial, trivial⟩ (ab_drop h (ab_lrc _ (ab_lrc _ (ab_lrc _ (ab_lrc _ (ab_lrc _ (ab_lrn _ (ab_lrn _ (ab_lrc _ ab_lr0)))))))))
          · have h := h.2 c
            exact ab_wk 9 (f' := (13, [some (.ref 40), some (.int y1), some (.int y2), some (.int y3), some (.int (y4 + 1)), some (.int r3), some (.long 0), none], [], 0, 0, (ab_G mi1 (ab_ul (ab_ul ml2 40 10 ((ml2 40 10) ||| 0)) 40 11 ((ml2 40 11) ||| ((0 : Int64) <<< (((y4 - 64)).toInt64 &&& 63))))))) rfl ⟨trivial, trivial, trivial, trivial, trivial, trivial, trivial, trivial, trivial, trivial⟩ (ab_drop h (ab_lrc _ (ab_lrc _ (ab_lrc _ (ab_lrc _ (ab_lrc _ (ab_lrn _ (ab_lrn _ (ab_lrc _ ab_lr0)))))))))
      · have h := h.2 c
        refine ab_wk 9 (f' := (if y4 < 64 then 68 else 76, [some (.ref 40), some (.int y1), some (.int y2), some (.int y3), some (.int y4), some (.int r3), some (.long 1), none], [.long (ml2 40 10), .ref 40], 0, 0, (ab_G mi1 ml2))) rfl ⟨trivial, trivial, trivial, trivial, trivial, trivial, trivial, trivial, trivial, trivial⟩ ?_
        refine ab_wi (fun c => ?_) (fun c => ?_)
        · have h := h.1 c
          refine ab_wk 12 (f' := (if y4 < 64 then 93 else 97, [some (.ref 40), some (.int y1), some (.int y2), some (.int y3), some (.int y4), some (.int r3), some (.long 1), none], [.long (ml2 40 11), .ref 40], 0, 0, (ab_G mi1 (ab_ul ml2 40 10 ((ml2 40 10) ||| ((1 : Int64) <<< ((y4).toInt64 &&& 63))))))) rfl ⟨trivial, trivial, trivial, trivial, trivial, trivial, trivial, trivial, trivial, trivial, trivial, trivial, trivial⟩ ?_
          refine ab_wi (fun c => ?_) (fun c => ?_)
          · have h := h.1 c
            exact ab_wk 6 (f' := (13, [some (.ref 40), some (.int y1), some (.int y2), some (.int y3), some (.int (y4 + 1)), some (.int r3), some (.long 1), none], [], 0, 0, (ab_G mi1 (ab_ul (ab_ul ml2 40 10 ((ml2 40 10) ||| ((1 : Int64) <<< ((y4).toInt64 &&& 63)))) 40 11 ((ml2 40 11) ||| 0))))) rfl ⟨trivial, trivial, trivial, trivial, trivial, trivial, trivial⟩ (ab_drop h (ab_lrc _ (ab_lrc _ (ab_lrc _ (ab_lrc _ (ab_lrc _ (ab_lrn _ (ab_lrn _ (ab_lrc _ ab_lr0)))))))))
          · have h := h.2 c
            exact ab_wk 9 (f' := (13, [some (.ref 40), some (.int y1), some (.int y2), some (.int y3), some (.int (y4 + 1)), some (.int r3), some (.long 1), none], [], 0, 0, (ab_G mi1 (ab_ul (ab_ul ml2 40 10 ((ml2 40 10) ||| ((1 : Int64) <<< ((y4).toInt64 &&& 63)))) 40 11 ((ml2 40 11) ||| ((1 : Int64) <<< (((y4 - 64)).toInt64 &&& 63))))))) rfl ⟨trivial, trivial, trivial, trivial, trivial, trivial, trivial, trivial, trivial, trivial⟩ (ab_drop h (ab_lrc _ (ab_lrc _ (ab_lrc _ (ab_lrc _ (ab_lrc _ (ab_lrn _ (ab_lrn _ (ab_lrc _ ab_lr0)))))))))
        · have h := h.2 c
          refine ab_wk 9 (f' := (if y4 < 64 then 93 else 97, [some (.ref 40), some (.int y1), some (.int y2), some (.int y3), some (.int y4), some (.int r3), some (.long 1), none], [.long (ml2 40 11), .ref 40], 0, 0, (ab_G mi1 (ab_ul ml2 40 10 ((ml2 40 10) ||| 0))))) rfl ⟨trivial, trivial, trivial, trivial, trivial, trivial, trivial, trivial, trivial, trivial⟩ ?_
          refine ab_wi (fun c => ?_) (fun c => ?_)
          · have h := h.1 c
            exact ab_wk 6 (f' := (13, [some (.ref 40), some (.int y1), some (.int y2), some (.int y3), some (.int (y4 + 1)), some (.int r3), some (.long 1), none], [], 0, 0, (ab_G mi1 (ab_ul (ab_ul ml2 40 10 ((ml2 40 10) ||| 0)) 40 11 ((ml2 40 11) ||| 0))))) rfl ⟨trivial, trivial, trivial, trivial, trivial, trivial, trivial⟩ (ab_drop h (ab_lrc _ (ab_lrc _ (ab_lrc _ (ab_lrc _ (ab_lrc _ (ab_lrn _ (ab_lrn _ (ab_lrc _ ab_lr0)))))))))
          · have h := h.2 c
            exact ab_wk 9 (f' := (13, [some (.ref 40), some (.int y1), some (.int y2), some (.int y3), some (.int (y4 + 1)), some (.int r3), some (.long 1), none], [], 0, 0, (ab_G mi1 (ab_ul (ab_ul ml2 40 10 ((ml2 40 10) ||| 0)) 40 11 ((ml2 40 11) ||| ((1 : Int64) <<< (((y4 - 64)).toInt64 &&& 63))))))) rfl ⟨trivial, trivial, trivial, trivial, trivial, trivial, trivial, trivial, trivial, trivial⟩ (ab_drop h (ab_lrc _ (ab_lrc _ (ab_lrc _ (ab_lrc _ (ab_lrc _ (ab_lrn _ (ab_lrn _ (ab_lrc _ ab_lr0)))))))))
    · have h := h.2 c
      refine ab_wk 3 (f' := (if y2 < r3 then 53 else 40, [some (.ref 40), some (.int y1), some (.int y2), some (.int y3), some (.int y4), some (.int r3), none, none], [], 0, 0, (ab_G mi1 ml2))) rfl ⟨trivial, trivial, trivial, trivial⟩ ?_
      refine ab_wi (fun c => ?_) (fun c => ?_)
      · have h := h.1 c
        refine ab_wk 8 (f' := (if y4 < 64 then 68 else 76, [some (.ref 40), some (.int y1), some (.int y2), some (.int y3), some (.int y4), some (.int r3), some (.long 0), none], [.long (ml2 40 10), .ref 40], 0, 0, (ab_G mi1 ml2))) rfl ⟨trivial, trivial, trivial, trivial, trivial, trivial, trivial, trivial, trivial⟩ ?_
        refine ab_wi (fun c => ?_) (fun c => ?_)
        · have h := h.1 c
          refine ab_wk 12 (f' := (if y4 < 64 then 93 else 97, [some (.ref 40), some (.int y1), some (.int y2), some (.int y3), some (.int y4), some (.int r3), some (.long 0), none], [.long (ml2 40 11), .ref 40], 0, 0, (ab_G mi1 (ab_ul ml2 40 10 ((ml2 40 10) ||| ((0 : Int64) <<< ((y4).toInt64 &&& 63))))))) rfl ⟨trivial, trivial, trivial, trivial, trivial, trivial, trivial, trivial, trivial, trivial, trivial, trivial, trivial⟩ ?_
          refine ab_wi (fun c => ?_) (fun c => ?_)
          · have h := h.1 c
            exact ab_wk 6 (f' := (13, [some (.ref 40), some (.int y1), some (.int y2), some (.int y3), some (.int (y4 + 1)), some (.int r3), some (.long 0), none], [], 0, 0, (ab_G mi1 (ab_ul (ab_ul ml2 40 10 ((ml2 40 10) ||| ((0 : Int64) <<< ((y4).toInt64 &&& 63)))) 40 11 ((ml2 40 11) ||| 0))))) rfl ⟨trivial, trivial, trivial, trivial, trivial, trivial, trivial⟩ (ab_drop h (ab_lrc _ (ab_lrc _ (ab_lrc _ (ab_lrc _ (ab_lrc _ (ab_lrn _ (ab_lrn _ (ab_lrc _ ab_lr0)))))))))
          · have h := h.2 c
            exact ab_wk 9 (f' := (13, [some (.ref 40), some (.int y1), some (.int y2), some (.int y3), some (.int (y4 + 1)), some (.int r3), some (.long 0), none], [], 0, 0, (ab_G mi1 (ab_ul (ab_ul ml2 40 10 ((ml2 40 10) ||| ((0 : Int64) <<< ((y4).toInt64 &&& 63)))) 40 11 ((ml2 40 11) ||| ((0 : Int64) <<< (((y4 - 64)).toInt64 &&& 63))))))) rfl ⟨trivial, trivial, trivial, trivial, trivial, trivial, trivial, trivial, trivial, trivial⟩ (ab_drop h (ab_lrc _ (ab_lrc _ (ab_lrc _ (ab_lrc _ (ab_lrc _ (ab_lrn _ (ab_lrn _ (ab_lrc _ ab_lr0)))))))))
        · have h := h.2 c
          refine ab_wk 9 (f' := (if y4 < 64 then 93 else 97, [some (.ref 40), some (.int y1), some (.int y2), some (.int y3), some (.int y4), some (.int r3), some (.long 0), none], [.long (ml2 40 11), .ref 40], 0, 0, (ab_G mi1 (ab_ul ml2 40 10 ((ml2 40 10) ||| 0))))) rfl ⟨trivial, trivial, trivial, trivial, trivial, trivial, trivial, trivial, trivial, trivial⟩ ?_
          refine ab_wi (fun c => ?_) (fun c => ?_)
          · have h := h.1 c
            exact ab_wk 6 (f' := (13, [some (.ref 40), some (.int y1), some (.int y2), some (.int y3), some (.int (y4 + 1)), some (.int r3), some (.long 0), none], [], 0, 0, (ab_G mi1 (ab_ul (ab_ul ml2 40 10 ((ml2 40 10) ||| 0)) 40 11 ((ml2 40 11) ||| 0))))) rfl ⟨trivial, trivial, trivial, trivial, trivial, trivial, trivial⟩ (ab_drop h (ab_lrc _ (ab_lrc _ (ab_lrc _ (ab_lrc _ (ab_lrc _ (ab_lrn _ (ab_lrn _ (ab_lrc _ ab_lr0)))))))))
          · have h := h.2 c
            exact ab_wk 9 (f' := (13, [some (.ref 40), some (.int y1), some (.int y2), some (.int y3), some (.int (y4 + 1)), some (.int r3), some (.long 0), none], [], 0, 0, (ab_G mi1 (ab_ul (ab_ul ml2 40 10 ((ml2 40 10) ||| 0)) 40 11 ((ml2 40 11) ||| ((0 : Int64) <<< (((y4 - 64)).toInt64 &&& 63))))))) rfl ⟨trivial, trivial, trivial, trivial, trivial, trivial, trivial, trivial, trivial, trivial⟩ (ab_drop h (ab_lrc _ (ab_lrc _ (ab_lrc _ (ab_lrc _ (ab_lrc _ (ab_lrn _ (ab_lrn _ (ab_lrc _ ab_lr0)))))))))
      · have h := h.2 c
        refine ab_wk 10 (f' := (if y4 < 64 then 68 else 76, [some (.ref 40), some (.int y1), some (.int y2), some (.int y3), some (.int y4), some (.int r3), some (.long 1), none], [.long (ml2 40 10), .ref 40], 0, 0, (ab_G mi1 ml2))) rfl ⟨trivial, trivial, trivial, trivial, trivial, trivial, trivial, trivial, trivial, trivial, trivial⟩ ?_
        refine ab_wi (fun c => ?_) (fun c => ?_)
        · have h := h.1 c
          refine ab_wk 12 (f' := (if y4 < 64 then 93 else 97, [some (.ref 40), some (.int y1), some (.int y2), some (.int y3), some (.int y4), some (.int r3), some (.long 1), none], [.long (ml2 40 11), .ref 40], 0, 0, (ab_G mi1 (ab_ul ml2 40 10 ((ml2 40 10) ||| ((1 : Int64) <<< ((y4).toInt64 &&& 63))))))) rfl ⟨trivial, trivial, trivial, trivial, trivial, trivial, trivial, trivial, trivial, trivial, trivial, trivial, trivial⟩ ?_
          refine ab_wi (fun c => ?_) (fun c => ?_)
          · have h := h.1 c
            exact ab_wk 6 (f' := (13, [some (.ref 40), some (.int y1), some (.int y2), some (.int y3), some (.int (y4 + 1)), some (.int r3), some (.long 1), none], [], 0, 0, (ab_G mi1 (ab_ul (ab_ul ml2 40 10 ((ml2 40 10) ||| ((1 : Int64) <<< ((y4).toInt64 &&& 63)))) 40 11 ((ml2 40 11) ||| 0))))) rfl ⟨trivial, trivial, trivial, trivial, trivial, trivial, trivial⟩ (ab_drop h (ab_lrc _ (ab_lrc _ (ab_lrc _ (ab_lrc _ (ab_lrc _ (ab_lrn _ (ab_lrn _ (ab_lrc _ ab_lr0)))))))))
          · have h := h.2 c
            exact ab_wk 9 (f' := (13, [some (.ref 40), some (.int y1), some (.int y2), some (.int y3), some (.int (y4 + 1)), some (.int r3), some (.long 1), none], [], 0, 0, (ab_G mi1 (ab_ul (ab_ul ml2 40 10 ((ml2 40 10) ||| ((1 : Int64) <<< ((y4).toInt64 &&& 63)))) 40 11 ((ml2 40 11) ||| ((1 : Int64) <<< (((y4 - 64)).toInt64 &&& 63))))))) rfl ⟨trivial, trivial, trivial, trivial, trivial, trivial, trivial, trivial, trivial, trivial⟩ (ab_drop h (ab_lrc _ (ab_lrc _ (ab_lrc _ (ab_lrc _ (ab_lrc _ (ab_lrn _ (ab_lrn _ (ab_lrc _ ab_lr0)))))))))
        · have h := h.2 c
          refine ab_wk 9 (f' := (if y4 < 64 then 93 else 97, [some (.ref 40), some (.int y1), some (.int y2), some (.int y3), some (.int y4), some (.int r3), some (.long 1), none], [.long (ml2 40 11), .ref 40], 0, 0, (ab_G mi1 (ab_ul ml2 40 10 ((ml2 40 10) ||| 0))))) rfl ⟨trivial, trivial, trivial, trivial, trivial, trivial, trivial, trivial, trivial, trivial⟩ ?_
          refine ab_wi (fun c => ?_) (fun c => ?_)
          · have h := h.1 c
            exact ab_wk 6 (f' := (13, [some (.ref 40), some (.int y1), some (.int y2), some (.int y3), some (.int (y4 + 1)), some (.int r3), some (.long 1), none], [], 0, 0, (ab_G mi1 (ab_ul (ab_ul ml2 40 10 ((ml2 40 10) ||| 0)) 40 11 ((ml2 40 11) ||| 0))))) rfl ⟨trivial, trivial, trivial, trivial, trivial, trivial, trivial⟩ (ab_drop h (ab_lrc _ (ab_lrc _ (ab_lrc _ (ab_lrc _ (ab_lrc _ (ab_lrn _ (ab_lrn _ (ab_lrc _ ab_lr0)))))))))
          · have h := h.2 c
            exact ab_wk 9 (f' := (13, [some (.ref 40), some (.int y1), some (.int y2), some (.int y3), some (.int (y4 + 1)), some (.int r3), some (.long 1), none], [], 0, 0, (ab_G mi1 (ab_ul (ab_ul ml2 40 10 ((ml2 40 10) ||| 0)) 40 11 ((ml2 40 11) ||| ((1 : Int64) <<< (((y4 - 64)).toInt64 &&& 63))))))) rfl ⟨trivial, trivial, trivial, trivial, trivial, trivial, trivial, trivial, trivial, trivial⟩ (ab_drop h (ab_lrc _ (ab_lrc _ (ab_lrc _ (ab_lrc _ (ab_lrc _ (ab_lrn _ (ab_lrn _ (ab_lrc _ ab_lr0)))))))))
  · have h := h.2 c
    exact ab_wr 1 rfl trivial h
theorem vc_X12_readSaying_0 {call : Nat → List Value → ab_S → Option Value → ab_S → Prop} {ro : ab_E} {Q : Option Value → ab_S → Prop} (x1 : Int32) (mi : Nat → Nat → Int32) (ml : Nat → Nat → Int64)
    (h : ∃ (mi1 : Nat → Nat → Int32) (ml2 : Nat → Nat → Int64), call 164 [.ref 40, .int x1] (ab_G mi ml) none (ab_G mi1 ml2) ∧ (ab_W call ro 0 0 (ab_lk2 pl_X12_readSaying) Q (5, [some (.ref 40), some (.int x1), none, none, none, none], [], 0, 0, (ab_G mi1 ml2)))) :
    ab_W call ro 0 0 (ab_lk2 pl_X12_readSaying) Q (0, [some (.ref 40), some (.int x1), none, none, none, none], [], 0, 0, ab_G mi ml) := by
  obtain ⟨mi1, ml2, hc, h⟩ := h
  refine ab_wc 3 (c := 164) (as := [.ref 40, .int x1]) (pc := 5) (ll := [some (.ref 40), some (.int x1), none, none, none, none]) (st := []) (c1 := 0) (s1 := 0) (g := (ab_G mi ml)) rfl ⟨trivial, trivial, trivial⟩ hc ?_
  exact h
theorem vc_X12_readSaying_5 {call : Nat → List Value → ab_S → Option Value → ab_S → Prop} {ro : ab_E} {Q : Option Value → ab_S → Prop} (y1 : Int32) (mi : Nat → Nat → Int32) (ml : Nat → Nat → Int64)
    (h : ∃ (r5 : Int32) (mi3 : Nat → Nat → Int32) (ml4 : Nat → Nat → Int64), call 158 [.ref 40, .int 2] (ab_G mi ml) (some (.int r5)) (ab_G mi3 ml4) ∧ (((r5 = 0) → (Q none (ab_G mi3 ml4))) ∧ (¬ (r5 = 0) → (∃ (mi6 : Nat → Nat → Int32) (ml7 : Nat → Nat → Int64), call 164 [.ref 40, .int y1] (ab_G mi3 ml4) none (ab_G mi6 ml7) ∧ (ab_W call ro 0 0 (ab_lk2 pl_X12_readSaying) Q (5, [some (.ref 40), some (.int y1), none, none, none, none], [], 0, 0, (ab_G mi6 (ab_ul (ab_ul ml7 40 10 ((ml7 40 10) ||| (ml4 40 10))) 40 11 ((ml7 40 11) ||| (ml4 40 11)))))))))) :
    ab_W call ro 0 0 (ab_lk2 pl_X12_readSaying) Q (5, [some (.ref 40), some (.int y1), none, none, none, none], [], 0, 0, ab_G mi ml) := by
  obtain ⟨r5, mi3, ml4, hc, h⟩ := h
  refine ab_wc 3 (c := 158) (as := [.ref 40, .int 2]) (pc := 10) (ll := [some (.ref 40), some (.int y1), none, none, none, none]) (st := []) (c1 := 0) (s1 := 0) (g := (ab_G mi ml)) rfl ⟨trivial, trivial, trivial⟩ hc ?_
  refine ab_wk 1 (f' := (if r5 = 0 then 53 else 13, [some (.ref 40), some (.int y1), none, none, none, none], [], 0, 0, (ab_G mi3 ml4))) rfl ⟨trivial, trivial⟩ ?_
  refine ab_wi (fun c => ?_) (fun c => ?_)
  · have h := h.1 c
    exact ab_wr 1 rfl trivial h
  · have h := h.2 c
    obtain ⟨mi6, ml7, hc, h⟩ := h
    refine ab_wc 9 (c := 164) (as := [.ref 40, .int y1]) (pc := 29) (ll := [some (.ref 40), some (.int y1), some (.long (ml4 40 10)), none, some (.long (ml4 40 11)), none]) (st := []) (c1 := 0) (s1 := 0) (g := (ab_G mi3 ml4)) rfl ⟨trivial, trivial, trivial, trivial, trivial, trivial, trivial, trivial, trivial⟩ hc ?_
    exact ab_wk 13 (f' := (5, [some (.ref 40), some (.int y1), some (.long (ml4 40 10)), none, some (.long (ml4 40 11)), none], [], 0, 0, (ab_G mi6 (ab_ul (ab_ul ml7 40 10 ((ml7 40 10) ||| (ml4 40 10))) 40 11 ((ml7 40 11) ||| (ml4 40 11)))))) rfl ⟨trivial, trivial, trivial, trivial, trivial, trivial, trivial, trivial, trivial, trivial, trivial, trivial, trivial, trivial⟩ (ab_drop h (ab_lrc _ (ab_lrc _ (ab_lrn _ (ab_lrc _ (ab_lrn _ (ab_lrc _ ab_lr0)))))))
theorem vc_X12_readTerm_0 {call : Nat → List Value → ab_S → Option Value → ab_S → Prop} {ro : ab_E} {Q : Option Value → ab_S → Prop} (x1 : Int32) (mi : Nat → Nat → Int32) (ml : Nat → Nat → Int64)
    (h : ∃ (mi1 : Nat → Nat → Int32) (ml2 : Nat → Nat → Int64), call 166 [.ref 40, .int x1] (ab_G mi ml) none (ab_G mi1 ml2) ∧ (ab_W call ro 0 0 (ab_lk2 pl_X12_readTerm) Q (5, [some (.ref 40), some (.int x1), none, none, none, none], [], 0, 0, (ab_G mi1 ml2)))) :
    ab_W call ro 0 0 (ab_lk2 pl_X12_readTerm) Q (0, [some (.ref 40), some (.int x1), none, none, none, none], [], 0, 0, ab_G mi ml) := by
  obtain ⟨mi1, ml2, hc, h⟩ := h
  refine ab_wc 3 (c := 166) (as := [.ref 40, .int x1]) (pc := 5) (ll := [some (.ref 40), some (.int x1), none, none, none, none]) (st := []) (c1 := 0) (s1 := 0) (g := (ab_G mi ml)) rfl ⟨trivial, trivial, trivial⟩ hc ?_
  exact h
theorem vc_X12_readTerm_5 {call : Nat → List Value → ab_S → Option Value → ab_S → Prop} {ro : ab_E} {Q : Option Value → ab_S → Prop} (y1 : Int32) (mi : Nat → Nat → Int32) (ml : Nat → Nat → Int64)
    (h : ∃ (r5 : Int32) (mi3 : Nat → Nat → Int32) (ml4 : Nat → Nat → Int64), call 158 [.ref 40, .int 3] (ab_G mi ml) (some (.int r5)) (ab_G mi3 ml4) ∧ (((r5 = 0) → (Q none (ab_G mi3 ml4))) ∧ (¬ (r5 = 0) → (∃ (mi6 : Nat → Nat → Int32) (ml7 : Nat → Nat → Int64), call 166 [.ref 40, .int y1] (ab_G mi3 ml4) none (ab_G mi6 ml7) ∧ (ab_W call ro 0 0 (ab_lk2 pl_X12_readTerm) Q (5, [some (.ref 40), some (.int y1), none, none, none, none], [], 0, 0, (ab_G mi6 (ab_ul (ab_ul ml7 40 10 ((ml7 40 10) &&& (ml4 40 10))) 40 11 ((ml7 40 11) &&& (ml4 40 11)))))))))) :
    ab_W call ro 0 0 (ab_lk2 pl_X12_readTerm) Q (5, [some (.ref 40), some (.int y1), none, none, none, none], [], 0, 0, ab_G mi ml) := by
  obtain ⟨r5, mi3, ml4, hc, h⟩ := h
  refine ab_wc 3 (c := 158) (as := [.ref 40, .int 3]) (pc := 10) (ll := [some (.ref 40), some (.int y1), none, none, none, none]) (st := []) (c1 := 0) (s1 := 0) (g := (ab_G mi ml)) rfl ⟨trivial, trivial, trivial⟩ hc ?_
  refine ab_wk 1 (f' := (if r5 = 0 then 53 else 13, [some (.ref 40), some (.int y1), none, none, none, none], [], 0, 0, (ab_G mi3 ml4))) rfl ⟨trivial, trivial⟩ ?_
  refine ab_wi (fun c => ?_) (fun c => ?_)
  · have h := h.1 c
    exact ab_wr 1 rfl trivial h
  · have h := h.2 c
    obtain ⟨mi6, ml7, hc, h⟩ := h
    refine ab_wc 9 (c := 166) (as := [.ref 40, .int y1]) (pc := 29) (ll := [some (.ref 40), some (.int y1), some (.long (ml4 40 10)), none, some (.long (ml4 40 11)), none]) (st := []) (c1 := 0) (s1 := 0) (g := (ab_G mi3 ml4)) rfl ⟨trivial, trivial, trivial, trivial, trivial, trivial, trivial, trivial, trivial⟩ hc ?_
    exact ab_wk 13 (f' := (5, [some (.ref 40), some (.int y1), some (.long (ml4 40 10)), none, some (.long (ml4 40 11)), none], [], 0, 0, (ab_G mi6 (ab_ul (ab_ul ml7 40 10 ((ml7 40 10) &&& (ml4 40 10))) 40 11 ((ml7 40 11) &&& (ml4 40 11)))))) rfl ⟨trivial, trivial, trivial, trivial, trivial, trivial, trivial, trivial, trivial, trivial, trivial, trivial, trivial, trivial⟩ (ab_drop h (ab_lrc _ (ab_lrc _ (ab_lrn _ (ab_lrc _ (ab_lrn _ (ab_lrc _ ab_lr0)))))))
theorem vc_X12_atomHere_0 {call : Nat → List Value → ab_S → Option Value → ab_S → Prop} {ro : ab_E} {Q : Option Value → ab_S → Prop}  (mi : Nat → Nat → Int32) (ml : Nat → Nat → Int64)
    (h : ab_W call ro 0 0 (ab_lk2 pl_X12_atomHere) Q (4, [some (.ref 40), some (.int (-1)), some (.int 0)], [], 0, 0, (ab_G mi ml))) :
    ab_W call ro 0 0 (ab_lk2 pl_X12_atomHere) Q (0, [some (.ref 40), none, none], [], 0, 0, ab_G mi ml) := by
  exact ab_wk 4 (f' := (4, [some (.ref 40), some (.int (-1)), some (.int 0)], [], 0, 0, (ab_G mi ml))) rfl ⟨trivial, trivial, trivial, trivial, trivial⟩ h
theorem vc_X12_atomHere_4 {call : Nat → List Value → ab_S → Option Value → ab_S → Prop} {ro : ab_E} {Q : Option Value → ab_S → Prop} (y1 : Int32) (y2 : Int32) (mi : Nat → Nat → Int32) (ml : Nat → Nat → Int64)
    (h : ((y2 < 7) → (∃ (r3 : Int32) (mi1 : Nat → Nat → Int32) (ml2 : Nat → Nat → Int64), call 155 [.ref 40, .int ((15 : Int32) + y2)] (ab_G mi ml) (some (.int r3)) (ab_G mi1 ml2) ∧ (((r3 = 0) → (ab_W call ro 0 0 (ab_lk2 pl_X12_atomHere) Q (4, [some (.ref 40), some (.int y1), some (.int (y2 + 1))], [], 0, 0, (ab_G mi1 ml2)))) ∧ (¬ (r3 = 0) → (ab_W call ro 0 0 (ab_lk2 pl_X12_atomHere) Q (4, [some (.ref 40), some (.int y2), some (.int (y2 + 1))], [], 0, 0, (ab_G mi1 ml2))))))) ∧ (¬ (y2 < 7) → (Q (some (.int y1)) (ab_G mi ml)))) :
    ab_W call ro 0 0 (ab_lk2 pl_X12_atomHere) Q (4, [some (.ref 40), some (.int y1), some (.int y2)], [], 0, 0, ab_G mi ml) := by
  refine ab_wk 3 (f' := (if y2 < 7 then 10 else 33, [some (.ref 40), some (.int y1), some (.int y2)], [], 0, 0, (ab_G mi ml))) rfl ⟨trivial, trivial, trivial, trivial⟩ ?_
  refine ab_wi (fun c => ?_) (fun c => ?_)
  · have h := h.1 c
    obtain ⟨r3, mi1, ml2, hc, h⟩ := h
    refine ab_wc 5 (c := 155) (as := [.ref 40, .int ((15 : Int32) + y2)]) (pc := 18) (ll := [some (.ref 40), some (.int y1), some (.int y2)]) (st := []) (c1 := 0) (s1 := 0) (g := (ab_G mi ml)) rfl ⟨trivial, trivial, trivial, trivial, trivial⟩ hc ?_
    refine ab_wk 1 (f' := (if r3 = 0 then 25 else 21, [some (.ref 40), some (.int y1), some (.int y2)], [], 0, 0, (ab_G mi1 ml2))) rfl ⟨trivial, trivial⟩ ?_
    refine ab_wi (fun c => ?_) (fun c => ?_)
    · have h := h.1 c
      exact ab_wk 4 (f' := (4, [some (.ref 40), some (.int y1), some (.int (y2 + 1))], [], 0, 0, (ab_G mi1 ml2))) rfl ⟨trivial, trivial, trivial, trivial, trivial⟩ h
    · have h := h.2 c
      exact ab_wk 5 (f' := (4, [some (.ref 40), some (.int y2), some (.int (y2 + 1))], [], 0, 0, (ab_G mi1 ml2))) rfl ⟨trivial, trivial, trivial, trivial, trivial, trivial⟩ h
  · have h := h.2 c
    exact ab_wr 2 rfl ⟨trivial, trivial⟩ h
theorem vc_X12_readPart_0 {call : Nat → List Value → ab_S → Option Value → ab_S → Prop} {ro : ab_E} {Q : Option Value → ab_S → Prop} (x1 : Int32) (mi : Nat → Nat → Int32) (ml : Nat → Nat → Int64)
    (h : ((0 < (mi 40 8)) → (Q none (ab_G mi ml))) ∧ (¬ (0 < (mi 40 8)) → (∃ (r3 : Int32) (mi1 : Nat → Nat → Int32) (ml2 : Nat → Nat → Int64), call 165 [.ref 40] (ab_G mi ml) (some (.int r3)) (ab_G mi1 ml2) ∧ (∃ (r6 : Int32) (mi4 : Nat → Nat → Int32) (ml5 : Nat → Nat → Int64), call 155 [.ref 40, .int 4] (ab_G mi1 ml2) (some (.int r6)) (ab_G mi4 ml5) ∧ (((r6 = 0) → (∃ (r9 : Int32) (mi7 : Nat → Nat → Int32) (ml8 : Nat → Nat → Int64), call 155 [.ref 40, .int 5] (ab_G mi4 ml5) (some (.int r9)) (ab_G mi7 ml8) ∧ (((r9 = 0) → (∃ (r12 : Int32) (mi10 : Nat → Nat → Int32) (ml11 : Nat → Nat → Int64), call 155 [.ref 40, .int 8] (ab_G mi7 ml8) (some (.int r12)) (ab_G mi10 ml11) ∧ (((r12 = 0) → (∃ (r15 : Int32) (mi13 : Nat → Nat → Int32) (ml14 : Nat → Nat → Int64), call 155 [.ref 40, .int 9] (ab_G mi10 ml11) (some (.int r15)) (ab_G mi13 ml14) ∧ (((r15 = 0) → (((r3 < 0) → (∃ (r18 : Int32) (mi16 : Nat → Nat → Int32) (ml17 : Nat → Nat → Int64), call 155 [.ref 40, .int 6] (ab_G mi13 ml14) (some (.int r18)) (ab_G mi16 ml17) ∧ (((r18 = 0) → (∃ (r21 : Int32) (mi19 : Nat → Nat → Int32) (ml20 : Nat → Nat → Int64), call 154 [.ref 40, .int 40] (ab_G mi16 ml17) (some (.int r21)) (ab_G mi19 ml20) ∧ (((r21 = 0) → (∃ (mi22 : Nat → Nat → Int32) (ml23 : Nat → Nat → Int64), call 153 [.ref 40, .int 1] (ab_G mi19 ml20) none (ab_G mi22 ml23) ∧ (((0 < (mi22 40 8)) → (Q none (ab_G mi22 ml23))) ∧ (¬ (0 < (mi22 40 8)) → (∃ (r26 : Int32) (mi24 : Nat → Nat → Int32) (ml25 : Nat → Nat → Int64), call 158 [.ref 40, .int 6] (ab_G mi22 ml23) (some (.int r26)) (ab_G mi24 ml25) ∧ (((r26 = 0) → (∃ (r29 : Int32) (mi27 : Nat → Nat → Int32) (ml28 : Nat → Nat → Int64), call 157 [.ref 40, .int 40] (ab_G mi24 ml25) (some (.int r29)) (ab_G mi27 ml28) ∧ (((r29 = 0) → (∃ (r32 : Int32) (mi30 : Nat → Nat → Int32) (ml31 : Nat → Nat → Int64), call 155 [.ref 40, .int 5] (ab_G mi27 ml28) (some (.int r32)) (ab_G mi30 ml31) ∧ (((r3 < 0) → (((r3 < 0) → (((r32 = 0) → (∃ (mi33 : Nat → Nat → Int32) (ml34 : Nat → Nat → Int64), call 162 [.ref 40, .int 0, .int 0, .int 0] (ab_G (ab_ui mi30 40 7 ((mi30 40 7) + 1)) ml31) none (ab_G mi33 ml34) ∧ (Q none (ab_G mi33 ml34)))) ∧ (¬ (r32 = 0) → (∃ (mi35 : Nat → Nat → Int32) (ml36 : Nat → Nat → Int64), call 162 [.ref 40, .int 0, .int 1, .int 0] (ab_G (ab_ui mi30 40 7 ((mi30 40 7) + 1)) ml31) none (ab_G mi35 ml36) ∧ (Q none (ab_G mi35 ml36)))))) ∧ (¬ (r3 < 0) → (∃ (mi37 : Nat → Nat → Int32) (ml38 : Nat → Nat → Int64), call 162 [.ref 40, .int 0, .int 1, .int 0] (ab_G (ab_ui mi30 40 7 ((mi30 40 7) + 1)) ml31) none (ab_G mi37 ml38) ∧ (Q none (ab_G mi37 ml38)))))) ∧ (¬ (r3 < 0) → (((r3 < 0) → (((r32 = 0) → (∃ (mi39 : Nat → Nat → Int32) (ml40 : Nat → Nat → Int64), call 162 [.ref 40, .int ((1 : Int32) <<< (r3 &&& 31)), .int 0, .int 0] (ab_G (ab_ui mi30 40 7 ((mi30 40 7) + 1)) ml31) none (ab_G mi39 ml40) ∧ (Q none (ab_G mi39 ml40)))) ∧ (¬ (r32 = 0) → (∃ (mi41 : Nat → Nat → Int32) (ml42 : Nat → Nat → Int64), call 162 [.ref 40, .int ((1 : Int32) <<< (r3 &&& 31)), .int 1, .int 0] (ab_G (ab_ui mi30 40 7 ((mi30 40 7) + 1)) ml31) none (ab_G mi41 ml42) ∧ (Q none (ab_G mi41 ml42)))))) ∧ (¬ (r3 < 0) → (∃ (mi43 : Nat → Nat → Int32) (ml44 : Nat → Nat → Int64), call 162 [.ref 40, .int ((1 : Int32) <<< (r3 &&& 31)), .int 1, .int 0] (ab_G (ab_ui mi30 40 7 ((mi30 40 7) + 1)) ml31) none (ab_G mi43 ml44) ∧ (Q none (ab_G mi43 ml44))))))))) ∧ (¬ (r29 = 0) → (∃ (mi45 : Nat → Nat → Int32) (ml46 : Nat → Nat → Int64), call 163 [.ref 40, .int (x1 + 1)] (ab_G mi27 ml28) none (ab_G mi45 ml46) ∧ (∃ (mi47 : Nat → Nat → Int32) (ml48 : Nat → Nat → Int64), call 156 [.ref 40, .int 41] (ab_G mi45 ml46) none (ab_G mi47 ml48) ∧ (Q none (ab_G mi47 ml48)))))))) ∧ (¬ (r26 = 0) → (∃ (mi49 : Nat → Nat → Int32) (ml50 : Nat → Nat → Int64), call 166 [.ref 40, .int (x1 + 1)] (ab_G mi24 ml25) none (ab_G mi49 ml50) ∧ (Q none (ab_G mi49 (ab_ul (ab_ul ml50 40 10 ((ml50 40 10) ^^^ (-1))) 40 11 ((ml50 40 11) ^^^ (-1))))))))))))) ∧ (¬ (r21 = 0) → (((x1 = 6) → (∃ (mi51 : Nat → Nat → Int32) (ml52 : Nat → Nat → Int64), call 153 [.ref 40, .int 5] (ab_G mi19 ml20) none (ab_G mi51 ml52) ∧ (((0 < (mi51 40 8)) → (Q none (ab_G mi51 ml52))) ∧ (¬ (0 < (mi51 40 8)) → (∃ (r55 : Int32) (mi53 : Nat → Nat → Int32) (ml54 : Nat → Nat → Int64), call 158 [.ref 40, .int 6] (ab_G mi51 ml52) (some (.int r55)) (ab_G mi53 ml54) ∧ (((r55 = 0) → (∃ (r58 : Int32) (mi56 : Nat → Nat → Int32) (ml57 : Nat → Nat → Int64), call 157 [.ref 40, .int 40] (ab_G mi53 ml54) (some (.int r58)) (ab_G mi56 ml57) ∧ (((r58 = 0) → (∃ (r61 : Int32) (mi59 : Nat → Nat → Int32) (ml60 : Nat → Nat → Int64), call 155 [.ref 40, .int 5] (ab_G mi56 ml57) (some (.int r61)) (ab_G mi59 ml60) ∧ (((r3 < 0) → (((r3 < 0) → (((r61 = 0) → (∃ (mi62 : Nat → Nat → Int32) (ml63 : Nat → Nat → Int64), call 162 [.ref 40, .int 0, .int 0, .int 0] (ab_G (ab_ui mi59 40 7 ((mi59 40 7) + 1)) ml60) none (ab_G mi62 ml63) ∧ (Q none (ab_G mi62 ml63)))) ∧ (¬ (r61 = 0) → (∃ (mi64 : Nat → Nat → Int32) (ml65 : Nat → Nat → Int64), call 162 [.ref 40, .int 0, .int 1, .int 0] (ab_G (ab_ui mi59 40 7 ((mi59 40 7) + 1)) ml60) none (ab_G mi64 ml65) ∧ (Q none (ab_G mi64 ml65)))))) ∧ (¬ (r3 < 0) → (∃ (mi66 : Nat → Nat → Int32) (ml67 : Nat → Nat → Int64), call 162 [.ref 40, .int 0, .int 1, .int 0] (ab_G (ab_ui mi59 40 7 ((mi59 40 7) + 1)) ml60) none (ab_G mi66 ml67) ∧ (Q none (ab_G mi66 ml67)))))) ∧ (¬ (r3 < 0) → (((r3 < 0) → (((r61 = 0) → (∃ (mi68 : Nat → Nat → Int32) (ml69 : Nat → Nat → Int64), call 162 [.ref 40, .int ((1 : Int32) <<< (r3 &&& 31)), .int 0, .int 0] (ab_G (ab_ui mi59 40 7 ((mi59 40 7) + 1)) ml60) none (ab_G mi68 ml69) ∧ (Q none (ab_G mi68 ml69)))) ∧ (¬ (r61 = 0) → (∃ (mi70 : Nat → Nat → Int32) (ml71 : Nat → Nat → Int64), call 162 [.ref 40, .int ((1 : Int32) <<< (r3 &&& 31)), .int 1, .int 0] (ab_G (ab_ui mi59 40 7 ((mi59 40 7) + 1)) ml60) none (ab_G mi70 ml71) ∧ (Q none (ab_G mi70 ml71)))))) ∧ (¬ (r3 < 0) → (∃ (mi72 : Nat → Nat → Int32) (ml73 : Nat → Nat → Int64), call 162 [.ref 40, .int ((1 : Int32) <<< (r3 &&& 31)), .int 1, .int 0] (ab_G (ab_ui mi59 40 7 ((mi59 40 7) + 1)) ml60) none (ab_G mi72 ml73) ∧ (Q none (ab_G mi72 ml73))))))))) ∧ (¬ (r58 = 0) → (∃ (mi74 : Nat → Nat → Int32) (ml75 : Nat → Nat → Int64), call 163 [.ref 40, .int (x1 + 1)] (ab_G mi56 ml57) none (ab_G mi74 ml75) ∧ (∃ (mi76 : Nat → Nat → Int32) (ml77 : Nat → Nat → Int64), call 156 [.ref 40, .int 41] (ab_G mi74 ml75) none (ab_G mi76 ml77) ∧ (Q none (ab_G mi76 ml77)))))))) ∧ (¬ (r55 = 0) → (∃ (mi78 : Nat → Nat → Int32) (ml79 : Nat → Nat → Int64), call 166 [.ref 40, .int (x1 + 1)] (ab_G mi53 ml54) none (ab_G mi78 ml79) ∧ (Q none (ab_G mi78 (ab_ul (ab_ul ml79 40 10 ((ml79 40 10) ^^^ (-1))) 40 11 ((ml79 40 11) ^^^ (-1))))))))))))) ∧ (¬ (x1 = 6) → (((0 < (mi19 40 8)) → (Q none (ab_G mi19 ml20))) ∧ (¬ (0 < (mi19 40 8)) → (∃ (r82 : Int32) (mi80 : Nat → Nat → Int32) (ml81 : Nat → Nat → Int64), call 158 [.ref 40, .int 6] (ab_G mi19 ml20) (some (.int r82)) (ab_G mi80 ml81) ∧ (((r82 = 0) → (∃ (r85 : Int32) (mi83 : Nat → Nat → Int32) (ml84 : Nat → Nat → Int64), call 157 [.ref 40, .int 40] (ab_G mi80 ml81) (some (.int r85)) (ab_G mi83 ml84) ∧ (((r85 = 0) → (∃ (r88 : Int32) (mi86 : Nat → Nat → Int32) (ml87 : Nat → Nat → Int64), call 155 [.ref 40, .int 5] (ab_G mi83 ml84) (some (.int r88)) (ab_G mi86 ml87) ∧ (((r3 < 0) → (((r3 < 0) → (((r88 = 0) → (∃ (mi89 : Nat → Nat → Int32) (ml90 : Nat → Nat → Int64), call 162 [.ref 40, .int 0, .int 0, .int 0] (ab_G (ab_ui mi86 40 7 ((mi86 40 7) + 1)) ml87) none (ab_G mi89 ml90) ∧ (Q none (ab_G mi89 ml90)))) ∧ (¬ (r88 = 0) → (∃ (mi91 : Nat → Nat → Int32) (ml92 : Nat → Nat → Int64), call 162 [.ref 40, .int 0, .int 1, .int 0] (ab_G (ab_ui mi86 40 7 ((mi86 40 7) + 1)) ml87) none (ab_G mi91 ml92) ∧ (Q none (ab_G mi91 ml92)))))) ∧ (¬ (r3 < 0) → (∃ (mi93 : Nat → Nat → Int32) (ml94 : Nat → Nat → Int64), call 162 [.ref 40, .int 0, .int 1, .int 0] (ab_G (ab_ui mi86 40 7 ((mi86 40 7) + 1)) ml87) none (ab_G mi93 ml94) ∧ (Q none (ab_G mi93 ml94)))))) ∧ (¬ (r3 < 0) → (((r3 < 0) → (((r88 = 0) → (∃ (mi95 : Nat → Nat → Int32) (ml96 : Nat → Nat → Int64), call 162 [.ref 40, .int ((1 : Int32) <<< (r3 &&& 31)), .int 0, .int 0] (ab_G (ab_ui mi86 40 7 ((mi86 40 7) + 1)) ml87) none (ab_G mi95 ml96) ∧ (Q none (ab_G mi95 ml96)))) ∧ (¬ (r88 = 0) → (∃ (mi97 : Nat → Nat → Int32) (ml98 : Nat → Nat → Int64), call 162 [.ref 40, .int ((1 : Int32) <<< (r3 &&& 31)), .int 1, .int 0] (ab_G (ab_ui mi86 40 7 ((mi86 40 7) + 1)) ml87) none (ab_G mi97 ml98) ∧ (Q none (ab_G mi97 ml98)))))) ∧ (¬ (r3 < 0) → (∃ (mi99 : Nat → Nat → Int32) (ml100 : Nat → Nat → Int64), call 162 [.ref 40, .int ((1 : Int32) <<< (r3 &&& 31)), .int 1, .int 0] (ab_G (ab_ui mi86 40 7 ((mi86 40 7) + 1)) ml87) none (ab_G mi99 ml100) ∧ (Q none (ab_G mi99 ml100))))))))) ∧ (¬ (r85 = 0) → (∃ (mi101 : Nat → Nat → Int32) (ml102 : Nat → Nat → Int64), call 163 [.ref 40, .int (x1 + 1)] (ab_G mi83 ml84) none (ab_G mi101 ml102) ∧ (∃ (mi103 : Nat → Nat → Int32) (ml104 : Nat → Nat → Int64), call 156 [.ref 40, .int 41] (ab_G mi101 ml102) none (ab_G mi103 ml104) ∧ (Q none (ab_G mi103 ml104)))))))) ∧ (¬ (r82 = 0) → (∃ (mi105 : Nat → Nat → Int32) (ml106 : Nat → Nat → Int64), call 166 [.ref 40, .int (x1 + 1)] (ab_G mi80 ml81) none (ab_G mi105 ml106) ∧ (Q none (ab_G mi105 (ab_ul (ab_ul ml106 40 10 ((ml106 40 10) ^^^ (-1))) 40 11 ((ml106 40 11) ^^^ (-1))))))))))))))))) ∧ (¬ (r18 = 0) → (((x1 = 6) → (∃ (mi107 : Nat → Nat → Int32) (ml108 : Nat → Nat → Int64), call 153 [.ref 40, .int 5] (ab_G mi16 ml17) none (ab_G mi107 ml108) ∧ (((0 < (mi107 40 8)) → (Q none (ab_G mi107 ml108))) ∧ (¬ (0 < (mi107 40 8)) → (∃ (r111 : Int32) (mi109 : Nat → Nat → Int32) (ml110 : Nat → Nat → Int64), call 158 [.ref 40, .int 6] (ab_G mi107 ml108) (some (.int r111)) (ab_G mi109 ml110) ∧ (((r111 = 0) → (∃ (r114 : Int32) (mi112 : Nat → Nat → Int32) (ml113 : Nat → Nat → Int64), call 157 [.ref 40, .int 40] (ab_G mi109 ml110) (some (.int r114)) (ab_G mi112 ml113) ∧ (((r114 = 0) → (∃ (r117 : Int32) (mi115 : Nat → Nat → Int32) (ml116 : Nat → Nat → Int64), call 155 [.ref 40, .int 5] (ab_G mi112 ml113) (some (.int r117)) (ab_G mi115 ml116) ∧ (((r3 < 0) → (((r3 < 0) → (((r117 = 0) → (∃ (mi118 : Nat → Nat → Int32) (ml119 : Nat → Nat → Int64), call 162 [.ref 40, .int 0, .int 0, .int 0] (ab_G (ab_ui mi115 40 7 ((mi115 40 7) + 1)) ml116) none (ab_G mi118 ml119) ∧ (Q none (ab_G mi118 ml119)))) ∧ (¬ (r117 = 0) → (∃ (mi120 : Nat → Nat → Int32) (ml121 : Nat → Nat → Int64), call 162 [.ref 40, .int 0, .int 1, .int 0] (ab_G (ab_ui mi115 40 7 ((mi115 40 7) + 1)) ml116) none (ab_G mi120 ml121) ∧ (Q none (ab_G mi120 ml121)))))) ∧ (¬ (r3 < 0) → (∃ (mi122 : Nat → Nat → Int32) (ml123 : Nat → Nat → Int64), call 162 [.ref 40, .int 0, .int 1, .int 0] (ab_G (ab_ui mi115 40 7 ((mi115 40 7) + 1)) ml116) none (ab_G mi122 ml123) ∧ (Q none (ab_G mi122 ml123)))))) ∧ (¬ (r3 < 0) → (((r3 < 0) → (((r117 = 0) → (∃ (mi124 : Nat → Nat → Int32) (ml125 : Nat → Nat → Int64), call 162 [.ref 40, .int ((1 : Int32) <<< (r3 &&& 31)), .int 0, .int 0] (ab_G (ab_ui mi115 40 7 ((mi115 40 7) + 1)) ml116) none (ab_G mi124 ml125) ∧ (Q none (ab_G mi124 ml125)))) ∧ (¬ (r117 = 0) → (∃ (mi126 : Nat → Nat → Int32) (ml127 : Nat → Nat → Int64), call 162 [.ref 40, .int ((1 : Int32) <<< (r3 &&& 31)), .int 1, .int 0] (ab_G (ab_ui mi115 40 7 ((mi115 40 7) + 1)) ml116) none (ab_G mi126 ml127) ∧ (Q none (ab_G mi126 ml127)))))) ∧ (¬ (r3 < 0) → (∃ (mi128 : Nat → Nat → Int32) (ml129 : Nat → Nat → Int64), call 162 [.ref 40, .int ((1 : Int32) <<< (r3 &&& 31)), .int 1, .int 0] (ab_G (ab_ui mi115 40 7 ((mi115 40 7) + 1)) ml116) none (ab_G mi128 ml129) ∧ (Q none (ab_G mi128 ml129))))))))) ∧ (¬ (r114 = 0) → (∃ (mi130 : Nat → Nat → Int32) (ml131 : Nat → Nat → Int64), call 163 [.ref 40, .int (x1 + 1)] (ab_G mi112 ml113) none (ab_G mi130 ml131) ∧ (∃ (mi132 : Nat → Nat → Int32) (ml133 : Nat → Nat → Int64), call 156 [.ref 40, .int 41] (ab_G mi130 ml131) none (ab_G mi132 ml133) ∧ (Q none (ab_G mi132 ml133)))))))) ∧ (¬ (r111 = 0) → (∃ (mi134 : Nat → Nat → Int32) (ml135 : Nat → Nat → Int64), call 166 [.ref 40, .int (x1 + 1)] (ab_G mi109 ml110) none (ab_G mi134 ml135) ∧ (Q none (ab_G mi134 (ab_ul (ab_ul ml135 40 10 ((ml135 40 10) ^^^ (-1))) 40 11 ((ml135 40 11) ^^^ (-1))))))))))))) ∧ (¬ (x1 = 6) → (((0 < (mi16 40 8)) → (Q none (ab_G mi16 ml17))) ∧ (¬ (0 < (mi16 40 8)) → (∃ (r138 : Int32) (mi136 : Nat → Nat → Int32) (ml137 : Nat → Nat → Int64), call 158 [.ref 40, .int 6] (ab_G mi16 ml17) (some (.int r138)) (ab_G mi136 ml137) ∧ (((r138 = 0) → (∃ (r141 : Int32) (mi139 : Nat → Nat → Int32) (ml140 : Nat → Nat → Int64), call 157 [.ref 40, .int 40] (ab_G mi136 ml137) (some (.int r141)) (ab_G mi139 ml140) ∧ (((r141 = 0) → (∃ (r144 : Int32) (mi142 : Nat → Nat → Int32) (ml143 : Nat → Nat → Int64), call 155 [.ref 40, .int 5] (ab_G mi139 ml140) (some (.int r144)) (ab_G mi142 ml143) ∧ (((r3 < 0) → (((r3 < 0) → (((r144 = 0) → (∃ (mi145 : Nat → Nat → Int32) (ml146 : Nat → Nat → Int64), call 162 [.ref 40, .int 0, .int 0, .int 0] (ab_G (ab_ui mi142 40 7 ((mi142 40 7) + 1)) ml143) none (ab_G mi145 ml146) ∧ (Q none (ab_G mi145 ml146)))) ∧ (¬ (r144 = 0) → (∃ (mi147 : Nat → Nat → Int32) (ml148 : Nat → Nat → Int64), call 162 [.ref 40, .int 0, .int 1, .int 0] (ab_G (ab_ui mi142 40 7 ((mi142 40 7) + 1)) ml143) none (ab_G mi147 ml148) ∧ (Q none (ab_G mi147 ml148)))))) ∧ (¬ (r3 < 0) → (∃ (mi149 : Nat → Nat → Int32) (ml150 : Nat → Nat → Int64), call 162 [.ref 40, .int 0, .int 1, .int 0] (ab_G (ab_ui mi142 40 7 ((mi142 40 7) + 1)) ml143) none (ab_G mi149 ml150) ∧ (Q none (ab_G mi149 ml150)))))) ∧ (¬ (r3 < 0) → (((r3 < 0) → (((r144 = 0) → (∃ (mi151 : Nat → Nat → Int32) (ml152 : Nat → Nat → Int64), call 162 [.ref 40, .int ((1 : Int32) <<< (r3 &&& 31)), .int 0, .int 0] (ab_G (ab_ui mi142 40 7 ((mi142 40 7) + 1)) ml143) none (ab_G mi151 ml152) ∧ (Q none (ab_G mi151 ml152)))) ∧ (¬ (r144 = 0) → (∃ (mi153 : Nat → Nat → Int32) (ml154 : Nat → Nat → Int64), call 162 [.ref 40, .int ((1 : Int32) <<< (r3 &&& 31)), .int 1, .int 0] (ab_G (ab_ui mi142 40 7 ((mi142 40 7) + 1)) ml143) none (ab_G mi153 ml154) ∧ (Q none (ab_G mi153 ml154)))))) ∧ (¬ (r3 < 0) → (∃ (mi155 : Nat → Nat → Int32) (ml156 : Nat → Nat → Int64), call 162 [.ref 40, .int ((1 : Int32) <<< (r3 &&& 31)), .int 1, .int 0] (ab_G (ab_ui mi142 40 7 ((mi142 40 7) + 1)) ml143) none (ab_G mi155 ml156) ∧ (Q none (ab_G mi155 ml156))))))))) ∧ (¬ (r141 = 0) → (∃ (mi157 : Nat → Nat → Int32) (ml158 : Nat → Nat → Int64), call 163 [.ref 40, .int (x1 + 1)] (ab_G mi139 ml140) none (ab_G mi157 ml158) ∧ (∃ (mi159 : Nat → Nat → Int32) (ml160 : Nat → Nat → Int64), call 156 [.ref 40, .int 41] (ab_G mi157 ml158) none (ab_G mi159 ml160) ∧ (Q none (ab_G mi159 ml160)))))))) ∧ (¬ (r138 = 0) → (∃ (mi161 : Nat → Nat → Int32) (ml162 : Nat → Nat → Int64), call 166 [.ref 40, .int (x1 + 1)] (ab_G mi136 ml137) none (ab_G mi161 ml162) ∧ (Q none (ab_G mi161 (ab_ul (ab_ul ml162 40 10 ((ml162 40 10) ^^^ (-1))) 40 11 ((ml162 40 11) ^^^ (-1))))))))))))))))) ∧ (¬ (r3 < 0) → (((x1 = 6) → (∃ (mi163 : Nat → Nat → Int32) (ml164 : Nat → Nat → Int64), call 153 [.ref 40, .int 5] (ab_G mi13 ml14) none (ab_G mi163 ml164) ∧ (((0 < (mi163 40 8)) → (Q none (ab_G mi163 ml164))) ∧ (¬ (0 < (mi163 40 8)) → (∃ (r167 : Int32) (mi165 : Nat → Nat → Int32) (ml166 : Nat → Nat → Int64), call 158 [.ref 40, .int 6] (ab_G mi163 ml164) (some (.int r167)) (ab_G mi165 ml166) ∧ (((r167 = 0) → (∃ (r170 : Int32) (mi168 : Nat → Nat → Int32) (ml169 : Nat → Nat → Int64), call 157 [.ref 40, .int 40] (ab_G mi165 ml166) (some (.int r170)) (ab_G mi168 ml169) ∧ (((r170 = 0) → (∃ (r173 : Int32) (mi171 : Nat → Nat → Int32) (ml172 : Nat → Nat → Int64), call 155 [.ref 40, .int 5] (ab_G mi168 ml169) (some (.int r173)) (ab_G mi171 ml172) ∧ (((r3 < 0) → (((r3 < 0) → (((r173 = 0) → (∃ (mi174 : Nat → Nat → Int32) (ml175 : Nat → Nat → Int64), call 162 [.ref 40, .int 0, .int 0, .int 0] (ab_G (ab_ui mi171 40 7 ((mi171 40 7) + 1)) ml172) none (ab_G mi174 ml175) ∧ (Q none (ab_G mi174 ml175)))) ∧ (¬ (r173 = 0) → (∃ (mi176 : Nat → Nat → Int32) (ml177 : Nat → Nat → Int64), call 162 [.ref 40, .int 0, .int 1, .int 0] (ab_G (ab_ui mi171 40 7 ((mi171 40 7) + 1)) ml172) none (ab_G mi176 ml177) ∧ (Q none (ab_G mi176 ml177)))))) ∧ (¬ (r3 < 0) → (∃ (mi178 : Nat → Nat → Int32) (ml179 : Nat → Nat → Int64), call 162 [.ref 40, .int 0, .int 1, .int 0] (ab_G (ab_ui mi171 40 7 ((mi171 40 7) + 1)) ml172) none (ab_G mi178 ml179) ∧ (Q none (ab_G mi178 ml179)))))) ∧ (¬ (r3 < 0) → (((r3 < 0) → (((r173 = 0) → (∃ (mi180 : Nat → Nat → Int32) (ml181 : Nat → Nat → Int64), call 162 [.ref 40, .int ((1 : Int32) <<< (r3 &&& 31)), .int 0, .int 0] (ab_G (ab_ui mi171 40 7 ((mi171 40 7) + 1)) ml172) none (ab_G mi180 ml181) ∧ (Q none (ab_G mi180 ml181)))) ∧ (¬ (r173 = 0) → (∃ (mi182 : Nat → Nat → Int32) (ml183 : Nat → Nat → Int64), call 162 [.ref 40, .int ((1 : Int32) <<< (r3 &&& 31)), .int 1, .int 0] (ab_G (ab_ui mi171 40 7 ((mi171 40 7) + 1)) ml172) none (ab_G mi182 ml183) ∧ (Q none (ab_G mi182 ml183)))))) ∧ (¬ (r3 < 0) → (∃ (mi184 : Nat → Nat → Int32) (ml185 : Nat → Nat → Int64), call 162 [.ref 40, .int ((1 : Int32) <<< (r3 &&& 31)), .int 1, .int 0] (ab_G (ab_ui mi171 40 7 ((mi171 40 7) + 1)) ml172) none (ab_G mi184 ml185) ∧ (Q none (ab_G mi184 ml185))))))))) ∧ (¬ (r170 = 0) → (∃ (mi186 : Nat → Nat → Int32) (ml187 : Nat → Nat → Int64), call 163 [.ref 40, .int (x1 + 1)] (ab_G mi168 ml169) none (ab_G mi186 ml187) ∧ (∃ (mi188 : Nat → Nat → Int32) (ml189 : Nat → Nat → Int64), call 156 [.ref 40, .int 41] (ab_G mi186 ml187) none (ab_G mi188 ml189) ∧ (Q none (ab_G mi188 ml189)))))))) ∧ (¬ (r167 = 0) → (∃ (mi190 : Nat → Nat → Int32) (ml191 : Nat → Nat → Int64), call 166 [.ref 40, .int (x1 + 1)] (ab_G mi165 ml166) none (ab_G mi190 ml191) ∧ (Q none (ab_G mi190 (ab_ul (ab_ul ml191 40 10 ((ml191 40 10) ^^^ (-1))) 40 11 ((ml191 40 11) ^^^ (-1))))))))))))) ∧ (¬ (x1 = 6) → (((0 < (mi13 40 8)) → (Q none (ab_G mi13 ml14))) ∧ (¬ (0 < (mi13 40 8)) → (∃ (r194 : Int32) (mi192 : Nat → Nat → Int32) (ml193 : Nat → Nat → Int64), call 158 [.ref 40, .int 6] (ab_G mi13 ml14) (some (.int r194)) (ab_G mi192 ml193) ∧ (((r194 = 0) → (∃ (r197 : Int32) (mi195 : Nat → Nat → Int32) (ml196 : Nat → Nat → Int64), call 157 [.ref 40, .int 40] (ab_G mi192 ml193) (some (.int r197)) (ab_G mi195 ml196) ∧ (((r197 = 0) → (∃ (r200 : Int32) (mi198 : Nat → Nat → Int32) (ml199 : Nat → Nat → Int64), call 155 [.ref 40, .int 5] (ab_G mi195 ml196) (some (.int r200)) (ab_G mi198 ml199) ∧ (((r3 < 0) → (((r3 < 0) → (((r200 = 0) → (∃ (mi201 : Nat → Nat → Int32) (ml202 : Nat → Nat → Int64), call 162 [.ref 40, .int 0, .int 0, .int 0] (ab_G (ab_ui mi198 40 7 ((mi198 40 7) + 1)) ml199) none (ab_G mi201 ml202) ∧ (Q none (ab_G mi201 ml202)))) ∧ (¬ (r200 = 0) → (∃ (mi203 : Nat → Nat → Int32) (ml204 : Nat → Nat → Int64), call 162 [.ref 40, .int 0, .int 1, .int 0] (ab_G (ab_ui mi198 40 7 ((mi198 40 7) + 1)) ml199) none (ab_G mi203 ml204) ∧ (Q none (ab_G mi203 ml204)))))) ∧ (¬ (r3 < 0) → (∃ (mi205 : Nat → Nat → Int32) (ml206 : Nat → Nat → Int64), call 162 [.ref 40, .int 0, .int 1, .int 0] (ab_G (ab_ui mi198 40 7 ((mi198 40 7) + 1)) ml199) none (ab_G mi205 ml206) ∧ (Q none (ab_G mi205 ml206)))))) ∧ (¬ (r3 < 0) → (((r3 < 0) → (((r200 = 0) → (∃ (mi207 : Nat → Nat → Int32) (ml208 : Nat → Nat → Int64), call 162 [.ref 40, .int ((1 : Int32) <<< (r3 &&& 31)), .int 0, .int 0] (ab_G (ab_ui mi198 40 7 ((mi198 40 7) + 1)) ml199) none (ab_G mi207 ml208) ∧ (Q none (ab_G mi207 ml208)))) ∧ (¬ (r200 = 0) → (∃ (mi209 : Nat → Nat → Int32) (ml210 : Nat → Nat → Int64), call 162 [.ref 40, .int ((1 : Int32) <<< (r3 &&& 31)), .int 1, .int 0] (ab_G (ab_ui mi198 40 7 ((mi198 40 7) + 1)) ml199) none (ab_G mi209 ml210) ∧ (Q none (ab_G mi209 ml210)))))) ∧ (¬ (r3 < 0) → (∃ (mi211 : Nat → Nat → Int32) (ml212 : Nat → Nat → Int64), call 162 [.ref 40, .int ((1 : Int32) <<< (r3 &&& 31)), .int 1, .int 0] (ab_G (ab_ui mi198 40 7 ((mi198 40 7) + 1)) ml199) none (ab_G mi211 ml212) ∧ (Q none (ab_G mi211 ml212))))))))) ∧ (¬ (r197 = 0) → (∃ (mi213 : Nat → Nat → Int32) (ml214 : Nat → Nat → Int64), call 163 [.ref 40, .int (x1 + 1)] (ab_G mi195 ml196) none (ab_G mi213 ml214) ∧ (∃ (mi215 : Nat → Nat → Int32) (ml216 : Nat → Nat → Int64), call 156 [.ref 40, .int 41] (ab_G mi213 ml214) none (ab_G mi215 ml216) ∧ (Q none (ab_G mi215 ml216)))))))) ∧ (¬ (r194 = 0) → (∃ (mi217 : Nat → Nat → Int32) (ml218 : Nat → Nat → Int64), call 166 [.ref 40, .int (x1 + 1)] (ab_G mi192 ml193) none (ab_G mi217 ml218) ∧ (Q none (ab_G mi217 (ab_ul (ab_ul ml218 40 10 ((ml218 40 10) ^^^ (-1))) 40 11 ((ml218 40 11) ^^^ (-1)))))))))))))))) ∧ (¬ (r15 = 0) → (((r3 < 0) → (((x1 = 6) → (∃ (mi219 : Nat → Nat → Int32) (ml220 : Nat → Nat → Int64), call 153 [.ref 40, .int 5] (ab_G mi13 ml14) none (ab_G mi219 ml220) ∧ (((0 < (mi219 40 8)) → (Q none (ab_G mi219 ml220))) ∧ (¬ (0 < (mi219 40 8)) → (∃ (r223 : Int32) (mi221 : Nat → Nat → Int32) (ml222 : Nat → Nat → Int64), call 158 [.ref 40, .int 6] (ab_G mi219 ml220) (some (.int r223)) (ab_G mi221 ml222) ∧ (((r223 = 0) → (∃ (r226 : Int32) (mi224 : Nat → Nat → Int32) (ml225 : Nat → Nat → Int64), call 157 [.ref 40, .int 40] (ab_G mi221 ml222) (some (.int r226)) (ab_G mi224 ml225) ∧ (((r226 = 0) → (∃ (mi227 : Nat → Nat → Int32) (ml228 : Nat → Nat → Int64), call 168 [.ref 40] (ab_G mi224 ml225) none (ab_G mi227 ml228) ∧ (Q none (ab_G mi227 ml228)))) ∧ (¬ (r226 = 0) → (∃ (mi229 : Nat → Nat → Int32) (ml230 : Nat → Nat → Int64), call 163 [.ref 40, .int (x1 + 1)] (ab_G mi224 ml225) none (ab_G mi229 ml230) ∧ (∃ (mi231 : Nat → Nat → Int32) (ml232 : Nat → Nat → Int64), call 156 [.ref 40, .int 41] (ab_G mi229 ml230) none (ab_G mi231 ml232) ∧ (Q none (ab_G mi231 ml232)))))))) ∧ (¬ (r223 = 0) → (∃ (mi233 : Nat → Nat → Int32) (ml234 : Nat → Nat → Int64), call 166 [.ref 40, .int (x1 + 1)] (ab_G mi221 ml222) none (ab_G mi233 ml234) ∧ (Q none (ab_G mi233 (ab_ul (ab_ul ml234 40 10 ((ml234 40 10) ^^^ (-1))) 40 11 ((ml234 40 11) ^^^ (-1))))))))))))) ∧ (¬ (x1 = 6) → (((0 < (mi13 40 8)) → (Q none (ab_G mi13 ml14))) ∧ (¬ (0 < (mi13 40 8)) → (∃ (r237 : Int32) (mi235 : Nat → Nat → Int32) (ml236 : Nat → Nat → Int64), call 158 [.ref 40, .int 6] (ab_G mi13 ml14) (some (.int r237)) (ab_G mi235 ml236) ∧ (((r237 = 0) → (∃ (r240 : Int32) (mi238 : Nat → Nat → Int32) (ml239 : Nat → Nat → Int64), call 157 [.ref 40, .int 40] (ab_G mi235 ml236) (some (.int r240)) (ab_G mi238 ml239) ∧ (((r240 = 0) → (∃ (mi241 : Nat → Nat → Int32) (ml242 : Nat → Nat → Int64), call 168 [.ref 40] (ab_G mi238 ml239) none (ab_G mi241 ml242) ∧ (Q none (ab_G mi241 ml242)))) ∧ (¬ (r240 = 0) → (∃ (mi243 : Nat → Nat → Int32) (ml244 : Nat → Nat → Int64), call 163 [.ref 40, .int (x1 + 1)] (ab_G mi238 ml239) none (ab_G mi243 ml244) ∧ (∃ (mi245 : Nat → Nat → Int32) (ml246 : Nat → Nat → Int64), call 156 [.ref 40, .int 41] (ab_G mi243 ml244) none (ab_G mi245 ml246) ∧ (Q none (ab_G mi245 ml246)))))))) ∧ (¬ (r237 = 0) → (∃ (mi247 : Nat → Nat → Int32) (ml248 : Nat → Nat → Int64), call 166 [.ref 40, .int (x1 + 1)] (ab_G mi235 ml236) none (ab_G mi247 ml248) ∧ (Q none (ab_G mi247 (ab_ul (ab_ul ml248 40 10 ((ml248 40 10) ^^^ (-1))) 40 11 ((ml248 40 11) ^^^ (-1)))))))))))))) ∧ (¬ (r3 < 0) → (((x1 = 6) → (∃ (mi249 : Nat → Nat → Int32) (ml250 : Nat → Nat → Int64), call 153 [.ref 40, .int 5] (ab_G mi13 ml14) none (ab_G mi249 ml250) ∧ (((0 < (mi249 40 8)) → (Q none (ab_G mi249 ml250))) ∧ (¬ (0 < (mi249 40 8)) → (∃ (r253 : Int32) (mi251 : Nat → Nat → Int32) (ml252 : Nat → Nat → Int64), call 158 [.ref 40, .int 6] (ab_G mi249 ml250) (some (.int r253)) (ab_G mi251 ml252) ∧ (((r253 = 0) → (∃ (r256 : Int32) (mi254 : Nat → Nat → Int32) (ml255 : Nat → Nat → Int64), call 157 [.ref 40, .int 40] (ab_G mi251 ml252) (some (.int r256)) (ab_G mi254 ml255) ∧ (((r256 = 0) → (∃ (mi257 : Nat → Nat → Int32) (ml258 : Nat → Nat → Int64), call 168 [.ref 40] (ab_G mi254 ml255) none (ab_G mi257 ml258) ∧ (Q none (ab_G mi257 ml258)))) ∧ (¬ (r256 = 0) → (∃ (mi259 : Nat → Nat → Int32) (ml260 : Nat → Nat → Int64), call 163 [.ref 40, .int (x1 + 1)] (ab_G mi254 ml255) none (ab_G mi259 ml260) ∧ (∃ (mi261 : Nat → Nat → Int32) (ml262 : Nat → Nat → Int64), call 156 [.ref 40, .int 41] (ab_G mi259 ml260) none (ab_G mi261 ml262) ∧ (Q none (ab_G mi261 ml262)))))))) ∧ (¬ (r253 = 0) → (∃ (mi263 : Nat → Nat → Int32) (ml264 : Nat → Nat → Int64), call 166 [.ref 40, .int (x1 + 1)] (ab_G mi251 ml252) none (ab_G mi263 ml264) ∧ (Q none (ab_G mi263 (ab_ul (ab_ul ml264 40 10 ((ml264 40 10) ^^^ (-1))) 40 11 ((ml264 40 11) ^^^ (-1))))))))))))) ∧ (¬ (x1 = 6) → (((0 < (mi13 40 8)) → (Q none (ab_G mi13 ml14))) ∧ (¬ (0 < (mi13 40 8)) → (∃ (r267 : Int32) (mi265 : Nat → Nat → Int32) (ml266 : Nat → Nat → Int64), call 158 [.ref 40, .int 6] (ab_G mi13 ml14) (some (.int r267)) (ab_G mi265 ml266) ∧ (((r267 = 0) → (∃ (r270 : Int32) (mi268 : Nat → Nat → Int32) (ml269 : Nat → Nat → Int64), call 157 [.ref 40, .int 40] (ab_G mi265 ml266) (some (.int r270)) (ab_G mi268 ml269) ∧ (((r270 = 0) → (∃ (mi271 : Nat → Nat → Int32) (ml272 : Nat → Nat → Int64), call 168 [.ref 40] (ab_G mi268 ml269) none (ab_G mi271 ml272) ∧ (Q none (ab_G mi271 ml272)))) ∧ (¬ (r270 = 0) → (∃ (mi273 : Nat → Nat → Int32) (ml274 : Nat → Nat → Int64), call 163 [.ref 40, .int (x1 + 1)] (ab_G mi268 ml269) none (ab_G mi273 ml274) ∧ (∃ (mi275 : Nat → Nat → Int32) (ml276 : Nat → Nat → Int64), call 156 [.ref 40, .int 41] (ab_G mi273 ml274) none (ab_G mi275 ml276) ∧ (Q none (ab_G mi275 ml276)))))))) ∧ (¬ (r267 = 0) → (∃ (mi277 : Nat → Nat → Int32) (ml278 : Nat → Nat → Int64), call 166 [.ref 40, .int (x1 + 1)] (ab_G mi265 ml266) none (ab_G mi277 ml278) ∧ (Q none (ab_G mi277 (ab_ul (ab_ul ml278 40 10 ((ml278 40 10) ^^^ (-1))) 40 11 ((ml278 40 11) ^^^ (-1))))))))))))))))))) ∧ (¬ (r12 = 0) → (((r3 < 0) → (((x1 = 6) → (∃ (mi279 : Nat → Nat → Int32) (ml280 : Nat → Nat → Int64), call 153 [.ref 40, .int 5] (ab_G mi10 ml11) none (ab_G mi279 ml280) ∧ (((0 < (mi279 40 8)) → (Q none (ab_G mi279 ml280))) ∧ (¬ (0 < (mi279 40 8)) → (∃ (r283 : Int32) (mi281 : Nat → Nat → Int32) (ml282 : Nat → Nat → Int64), call 158 [.ref 40, .int 6] (ab_G mi279 ml280) (some (.int r283)) (ab_G mi281 ml282) ∧ (((r283 = 0) → (∃ (r286 : Int32) (mi284 : Nat → Nat → Int32) (ml285 : Nat → Nat → Int64), call 157 [.ref 40, .int 40] (ab_G mi281 ml282) (some (.int r286)) (ab_G mi284 ml285) ∧ (((r286 = 0) → (∃ (mi287 : Nat → Nat → Int32) (ml288 : Nat → Nat → Int64), call 168 [.ref 40] (ab_G mi284 ml285) none (ab_G mi287 ml288) ∧ (Q none (ab_G mi287 ml288)))) ∧ (¬ (r286 = 0) → (∃ (mi289 : Nat → Nat → Int32) (ml290 : Nat → Nat → Int64), call 163 [.ref 40, .int (x1 + 1)] (ab_G mi284 ml285) none (ab_G mi289 ml290) ∧ (∃ (mi291 : Nat → Nat → Int32) (ml292 : Nat → Nat → Int64), call 156 [.ref 40, .int 41] (ab_G mi289 ml290) none (ab_G mi291 ml292) ∧ (Q none (ab_G mi291 ml292)))))))) ∧ (¬ (r283 = 0) → (∃ (mi293 : Nat → Nat → Int32) (ml294 : Nat → Nat → Int64), call 166 [.ref 40, .int (x1 + 1)] (ab_G mi281 ml282) none (ab_G mi293 ml294) ∧ (Q none (ab_G mi293 (ab_ul (ab_ul ml294 40 10 ((ml294 40 10) ^^^ (-1))) 40 11 ((ml294 40 11) ^^^ (-1))))))))))))) ∧ (¬ (x1 = 6) → (((0 < (mi10 40 8)) → (Q none (ab_G mi10 ml11))) ∧ (¬ (0 < (mi10 40 8)) → (∃ (r297 : Int32) (mi295 : Nat → Nat → Int32) (ml296 : Nat → Nat → Int64), call 158 [.ref 40, .int 6] (ab_G mi10 ml11) (some (.int r297)) (ab_G mi295 ml296) ∧ (((r297 = 0) → (∃ (r300 : Int32) (mi298 : Nat → Nat → Int32) (ml299 : Nat → Nat → Int64), call 157 [.ref 40, .int 40] (ab_G mi295 ml296) (some (.int r300)) (ab_G mi298 ml299) ∧ (((r300 = 0) → (∃ (mi301 : Nat → Nat → Int32) (ml302 : Nat → Nat → Int64), call 168 [.ref 40] (ab_G mi298 ml299) none (ab_G mi301 ml302) ∧ (Q none (ab_G mi301 ml302)))) ∧ (¬ (r300 = 0) → (∃ (mi303 : Nat → Nat → Int32) (ml304 : Nat → Nat → Int64), call 163 [.ref 40, .int (x1 + 1)] (ab_G mi298 ml299) none (ab_G mi303 ml304) ∧ (∃ (mi305 : Nat → Nat → Int32) (ml306 : Nat → Nat → Int64), call 156 [.ref 40, .int 41] (ab_G mi303 ml304) none (ab_G mi305 ml306) ∧ (Q none (ab_G mi305 ml306)))))))) ∧ (¬ (r297 = 0) → (∃ (mi307 : Nat → Nat → Int32) (ml308 : Nat → Nat → Int64), call 166 [.ref 40, .int (x1 + 1)] (ab_G mi295 ml296) none (ab_G mi307 ml308) ∧ (Q none (ab_G mi307 (ab_ul (ab_ul ml308 40 10 ((ml308 40 10) ^^^ (-1))) 40 11 ((ml308 40 11) ^^^ (-1)))))))))))))) ∧ (¬ (r3 < 0) → (((x1 = 6) → (∃ (mi309 : Nat → Nat → Int32) (ml310 : Nat → Nat → Int64), call 153 [.ref 40, .int 5] (ab_G mi10 ml11) none (ab_G mi309 ml310) ∧ (((0 < (mi309 40 8)) → (Q none (ab_G mi309 ml310))) ∧ (¬ (0 < (mi309 40 8)) → (∃ (r313 : Int32) (mi311 : Nat → Nat → Int32) (ml312 : Nat → Nat → Int64), call 158 [.ref 40, .int 6] (ab_G mi309 ml310) (some (.int r313)) (ab_G mi311 ml312) ∧ (((r313 = 0) → (∃ (r316 : Int32) (mi314 : Nat → Nat → Int32) (ml315 : Nat → Nat → Int64), call 157 [.ref 40, .int 40] (ab_G mi311 ml312) (some (.int r316)) (ab_G mi314 ml315) ∧ (((r316 = 0) → (∃ (mi317 : Nat → Nat → Int32) (ml318 : Nat → Nat → Int64), call 168 [.ref 40] (ab_G mi314 ml315) none (ab_G mi317 ml318) ∧ (Q none (ab_G mi317 ml318)))) ∧ (¬ (r316 = 0) → (∃ (mi319 : Nat → Nat → Int32) (ml320 : Nat → Nat → Int64), call 163 [.ref 40, .int (x1 + 1)] (ab_G mi314 ml315) none (ab_G mi319 ml320) ∧ (∃ (mi321 : Nat → Nat → Int32) (ml322 : Nat → Nat → Int64), call 156 [.ref 40, .int 41] (ab_G mi319 ml320) none (ab_G mi321 ml322) ∧ (Q none (ab_G mi321 ml322)))))))) ∧ (¬ (r313 = 0) → (∃ (mi323 : Nat → Nat → Int32) (ml324 : Nat → Nat → Int64), call 166 [.ref 40, .int (x1 + 1)] (ab_G mi311 ml312) none (ab_G mi323 ml324) ∧ (Q none (ab_G mi323 (ab_ul (ab_ul ml324 40 10 ((ml324 40 10) ^^^ (-1))) 40 11 ((ml324 40 11) ^^^ (-1))))))))))))) ∧ (¬ (x1 = 6) → (((0 < (mi10 40 8)) → (Q none (ab_G mi10 ml11))) ∧ (¬ (0 < (mi10 40 8)) → (∃ (r327 : Int32) (mi325 : Nat → Nat → Int32) (ml326 : Nat → Nat → Int64), call 158 [.ref 40, .int 6] (ab_G mi10 ml11) (some (.int r327)) (ab_G mi325 ml326) ∧ (((r327 = 0) → (∃ (r330 : Int32) (mi328 : Nat → Nat → Int32) (ml329 : Nat → Nat → Int64), call 157 [.ref 40, .int 40] (ab_G mi325 ml326) (some (.int r330)) (ab_G mi328 ml329) ∧ (((r330 = 0) → (∃ (mi331 : Nat → Nat → Int32) (ml332 : Nat → Nat → Int64), call 168 [.ref 40] (ab_G mi328 ml329) none (ab_G mi331 ml332) ∧ (Q none (ab_G mi331 ml332)))) ∧ (¬ (r330 = 0) → (∃ (mi333 : Nat → Nat → Int32) (ml334 : Nat → Nat → Int64), call 163 [.ref 40, .int (x1 + 1)] (ab_G mi328 ml329) none (ab_G mi333 ml334) ∧ (∃ (mi335 : Nat → Nat → Int32) (ml336 : Nat → Nat → Int64), call 156 [.ref 40, .int 41] (ab_G mi333 ml334) none (ab_G mi335 ml336) ∧ (Q none (ab_G mi335 ml336)))))))) ∧ (¬ (r327 = 0) → (∃ (mi337 : Nat → Nat → Int32) (ml338 : Nat → Nat → Int64), call 166 [.ref 40, .int (x1 + 1)] (ab_G mi325 ml326) none (ab_G mi337 ml338) ∧ (Q none (ab_G mi337 (ab_ul (ab_ul ml338 40 10 ((ml338 40 10) ^^^ (-1))) 40 11 ((ml338 40 11) ^^^ (-1))))))))))))))))))) ∧ (¬ (r9 = 0) → (∃ (r341 : Int32) (mi339 : Nat → Nat → Int32) (ml340 : Nat → Nat → Int64), call 155 [.ref 40, .int 8] (ab_G mi7 ml8) (some (.int r341)) (ab_G mi339 ml340) ∧ (((r341 = 0) → (∃ (r344 : Int32) (mi342 : Nat → Nat → Int32) (ml343 : Nat → Nat → Int64), call 155 [.ref 40, .int 9] (ab_G mi339 ml340) (some (.int r344)) (ab_G mi342 ml343) ∧ (((r344 = 0) → (((r3 < 0) → (((x1 = 6) → (∃ (mi345 : Nat → Nat → Int32) (ml346 : Nat → Nat → Int64), call 153 [.ref 40, .int 5] (ab_G mi342 ml343) none (ab_G mi345 ml346) ∧ (((0 < (mi345 40 8)) → (Q none (ab_G mi345 ml346))) ∧ (¬ (0 < (mi345 40 8)) → (∃ (r349 : Int32) (mi347 : Nat → Nat → Int32) (ml348 : Nat → Nat → Int64), call 158 [.ref 40, .int 6] (ab_G mi345 ml346) (some (.int r349)) (ab_G mi347 ml348) ∧ (((r349 = 0) → (∃ (r352 : Int32) (mi350 : Nat → Nat → Int32) (ml351 : Nat → Nat → Int64), call 157 [.ref 40, .int 40] (ab_G mi347 ml348) (some (.int r352)) (ab_G mi350 ml351) ∧ (((r352 = 0) → (∃ (r355 : Int32) (mi353 : Nat → Nat → Int32) (ml354 : Nat → Nat → Int64), call 155 [.ref 40, .int 5] (ab_G mi350 ml351) (some (.int r355)) (ab_G mi353 ml354) ∧ (((r3 < 0) → (((r3 < 0) → (((r355 = 0) → (∃ (mi356 : Nat → Nat → Int32) (ml357 : Nat → Nat → Int64), call 162 [.ref 40, .int 0, .int 0, .int 0] (ab_G (ab_ui mi353 40 7 ((mi353 40 7) + 1)) ml354) none (ab_G mi356 ml357) ∧ (Q none (ab_G mi356 ml357)))) ∧ (¬ (r355 = 0) → (∃ (mi358 : Nat → Nat → Int32) (ml359 : Nat → Nat → Int64), call 162 [.ref 40, .int 0, .int 1, .int 0] (ab_G (ab_ui mi353 40 7 ((mi353 40 7) + 1)) ml354) none (ab_G mi358 ml359) ∧ (Q none (ab_G mi358 ml359)))))) ∧ (¬ (r3 < 0) → (∃ (mi360 : Nat → Nat → Int32) (ml361 : Nat → Nat → Int64), call 162 [.ref 40, .int 0, .int 1, .int 0] (ab_G (ab_ui mi353 40 7 ((mi353 40 7) + 1)) ml354) none (ab_G mi360 ml361) ∧ (Q none (ab_G mi360 ml361)))))) ∧ (¬ (r3 < 0) → (((r3 < 0) → (((r355 = 0) → (∃ (mi362 : Nat → Nat → Int32) (ml363 : Nat → Nat → Int64), call 162 [.ref 40, .int ((1 : Int32) <<< (r3 &&& 31)), .int 0, .int 0] (ab_G (ab_ui mi353 40 7 ((mi353 40 7) + 1)) ml354) none (ab_G mi362 ml363) ∧ (Q none (ab_G mi362 ml363)))) ∧ (¬ (r355 = 0) → (∃ (mi364 : Nat → Nat → Int32) (ml365 : Nat → Nat → Int64), call 162 [.ref 40, .int ((1 : Int32) <<< (r3 &&& 31)), .int 1, .int 0] (ab_G (ab_ui mi353 40 7 ((mi353 40 7) + 1)) ml354) none (ab_G mi364 ml365) ∧ (Q none (ab_G mi364 ml365)))))) ∧ (¬ (r3 < 0) → (∃ (mi366 : Nat → Nat → Int32) (ml367 : Nat → Nat → Int64), call 162 [.ref 40, .int ((1 : Int32) <<< (r3 &&& 31)), .int 1, .int 0] (ab_G (ab_ui mi353 40 7 ((mi353 40 7) + 1)) ml354) none (ab_G mi366 ml367) ∧ (Q none (ab_G mi366 ml367))))))))) ∧ (¬ (r352 = 0) → (∃ (mi368 : Nat → Nat → Int32) (ml369 : Nat → Nat → Int64), call 163 [.ref 40, .int (x1 + 1)] (ab_G mi350 ml351) none (ab_G mi368 ml369) ∧ (∃ (mi370 : Nat → Nat → Int32) (ml371 : Nat → Nat → Int64), call 156 [.ref 40, .int 41] (ab_G mi368 ml369) none (ab_G mi370 ml371) ∧ (Q none (ab_G mi370 ml371)))))))) ∧ (¬ (r349 = 0) → (∃ (mi372 : Nat → Nat → Int32) (ml373 : Nat → Nat → Int64), call 166 [.ref 40, .int (x1 + 1)] (ab_G mi347 ml348) none (ab_G mi372 ml373) ∧ (Q none (ab_G mi372 (ab_ul (ab_ul ml373 40 10 ((ml373 40 10) ^^^ (-1))) 40 11 ((ml373 40 11) ^^^ (-1))))))))))))) ∧ (¬ (x1 = 6) → (((0 < (mi342 40 8)) → (Q none (ab_G mi342 ml343))) ∧ (¬ (0 < (mi342 40 8)) → (∃ (r376 : Int32) (mi374 : Nat → Nat → Int32) (ml375 : Nat → Nat → Int64), call 158 [.ref 40, .int 6] (ab_G mi342 ml343) (some (.int r376)) (ab_G mi374 ml375) ∧ (((r376 = 0) → (∃ (r379 : Int32) (mi377 : Nat → Nat → Int32) (ml378 : Nat → Nat → Int64), call 157 [.ref 40, .int 40] (ab_G mi374 ml375) (some (.int r379)) (ab_G mi377 ml378) ∧ (((r379 = 0) → (∃ (r382 : Int32) (mi380 : Nat → Nat → Int32) (ml381 : Nat → Nat → Int64), call 155 [.ref 40, .int 5] (ab_G mi377 ml378) (some (.int r382)) (ab_G mi380 ml381) ∧ (((r3 < 0) → (((r3 < 0) → (((r382 = 0) → (∃ (mi383 : Nat → Nat → Int32) (ml384 : Nat → Nat → Int64), call 162 [.ref 40, .int 0, .int 0, .int 0] (ab_G (ab_ui mi380 40 7 ((mi380 40 7) + 1)) ml381) none (ab_G mi383 ml384) ∧ (Q none (ab_G mi383 ml384)))) ∧ (¬ (r382 = 0) → (∃ (mi385 : Nat → Nat → Int32) (ml386 : Nat → Nat → Int64), call 162 [.ref 40, .int 0, .int 1, .int 0] (ab_G (ab_ui mi380 40 7 ((mi380 40 7) + 1)) ml381) none (ab_G mi385 ml386) ∧ (Q none (ab_G mi385 ml386)))))) ∧ (¬ (r3 < 0) → (∃ (mi387 : Nat → Nat → Int32) (ml388 : Nat → Nat → Int64), call 162 [.ref 40, .int 0, .int 1, .int 0] (ab_G (ab_ui mi380 40 7 ((mi380 40 7) + 1)) ml381) none (ab_G mi387 ml388) ∧ (Q none (ab_G mi387 ml388)))))) ∧ (¬ (r3 < 0) → (((r3 < 0) → (((r382 = 0) → (∃ (mi389 : Nat → Nat → Int32) (ml390 : Nat → Nat → Int64), call 162 [.ref 40, .int ((1 : Int32) <<< (r3 &&& 31)), .int 0, .int 0] (ab_G (ab_ui mi380 40 7 ((mi380 40 7) + 1)) ml381) none (ab_G mi389 ml390) ∧ (Q none (ab_G mi389 ml390)))) ∧ (¬ (r382 = 0) → (∃ (mi391 : Nat → Nat → Int32) (ml392 : Nat → Nat → Int64), call 162 [.ref 40, .int ((1 : Int32) <<< (r3 &&& 31)), .int 1, .int 0] (ab_G (ab_ui mi380 40 7 ((mi380 40 7) + 1)) ml381) none (ab_G mi391 ml392) ∧ (Q none (ab_G mi391 ml392)))))) ∧ (¬ (r3 < 0) → (∃ (mi393 : Nat → Nat → Int32) (ml394 : Nat → Nat → Int64), call 162 [.ref 40, .int ((1 : Int32) <<< (r3 &&& 31)), .int 1, .int 0] (ab_G (ab_ui mi380 40 7 ((mi380 40 7) + 1)) ml381) none (ab_G mi393 ml394) ∧ (Q none (ab_G mi393 ml394))))))))) ∧ (¬ (r379 = 0) → (∃ (mi395 : Nat → Nat → Int32) (ml396 : Nat → Nat → Int64), call 163 [.ref 40, .int (x1 + 1)] (ab_G mi377 ml378) none (ab_G mi395 ml396) ∧ (∃ (mi397 : Nat → Nat → Int32) (ml398 : Nat → Nat → Int64), call 156 [.ref 40, .int 41] (ab_G mi395 ml396) none (ab_G mi397 ml398) ∧ (Q none (ab_G mi397 ml398)))))))) ∧ (¬ (r376 = 0) → (∃ (mi399 : Nat → Nat → Int32) (ml400 : Nat → Nat → Int64), call 166 [.ref 40, .int (x1 + 1)] (ab_G mi374 ml375) none (ab_G mi399 ml400) ∧ (Q none (ab_G mi399 (ab_ul (ab_ul ml400 40 10 ((ml400 40 10) ^^^ (-1))) 40 11 ((ml400 40 11) ^^^ (-1)))))))))))))) ∧ (¬ (r3 < 0) → (((x1 = 6) → (∃ (mi401 : Nat → Nat → Int32) (ml402 : Nat → Nat → Int64), call 153 [.ref 40, .int 5] (ab_G mi342 ml343) none (ab_G mi401 ml402) ∧ (((0 < (mi401 40 8)) → (Q none (ab_G mi401 ml402))) ∧ (¬ (0 < (mi401 40 8)) → (∃ (r405 : Int32) (mi403 : Nat → Nat → Int32) (ml404 : Nat → Nat → Int64), call 158 [.ref 40, .int 6] (ab_G mi401 ml402) (some (.int r405)) (ab_G mi403 ml404) ∧ (((r405 = 0) → (∃ (r408 : Int32) (mi406 : Nat → Nat → Int32) (ml407 : Nat → Nat → Int64), call 157 [.ref 40, .int 40] (ab_G mi403 ml404) (some (.int r408)) (ab_G mi406 ml407) ∧ (((r408 = 0) → (∃ (r411 : Int32) (mi409 : Nat → Nat → Int32) (ml410 : Nat → Nat → Int64), call 155 [.ref 40, .int 5] (ab_G mi406 ml407) (some (.int r411)) (ab_G mi409 ml410) ∧ (((r3 < 0) → (((r3 < 0) → (((r411 = 0) → (∃ (mi412 : Nat → Nat → Int32) (ml413 : Nat → Nat → Int64), call 162 [.ref 40, .int 0, .int 0, .int 0] (ab_G (ab_ui mi409 40 7 ((mi409 40 7) + 1)) ml410) none (ab_G mi412 ml413) ∧ (Q none (ab_G mi412 ml413)))) ∧ (¬ (r411 = 0) → (∃ (mi414 : Nat → Nat → Int32) (ml415 : Nat → Nat → Int64), call 162 [.ref 40, .int 0, .int 1, .int 0] (ab_G (ab_ui mi409 40 7 ((mi409 40 7) + 1)) ml410) none (ab_G mi414 ml415) ∧ (Q none (ab_G mi414 ml415)))))) ∧ (¬ (r3 < 0) → (∃ (mi416 : Nat → Nat → Int32) (ml417 : Nat → Nat → Int64), call 162 [.ref 40, .int 0, .int 1, .int 0] (ab_G (ab_ui mi409 40 7 ((mi409 40 7) + 1)) ml410) none (ab_G mi416 ml417) ∧ (Q none (ab_G mi416 ml417)))))) ∧ (¬ (r3 < 0) → (((r3 < 0) → (((r411 = 0) → (∃ (mi418 : Nat → Nat → Int32) (ml419 : Nat → Nat → Int64), call 162 [.ref 40, .int ((1 : Int32) <<< (r3 &&& 31)), .int 0, .int 0] (ab_G (ab_ui mi409 40 7 ((mi409 40 7) + 1)) ml410) none (ab_G mi418 ml419) ∧ (Q none (ab_G mi418 ml419)))) ∧ (¬ (r411 = 0) → (∃ (mi420 : Nat → Nat → Int32) (ml421 : Nat → Nat → Int64), call 162 [.ref 40, .int ((1 : Int32) <<< (r3 &&& 31)), .int 1, .int 0] (ab_G (ab_ui mi409 40 7 ((mi409 40 7) + 1)) ml410) none (ab_G mi420 ml421) ∧ (Q none (ab_G mi420 ml421)))))) ∧ (¬ (r3 < 0) → (∃ (mi422 : Nat → Nat → Int32) (ml423 : Nat → Nat → Int64), call 162 [.ref 40, .int ((1 : Int32) <<< (r3 &&& 31)), .int 1, .int 0] (ab_G (ab_ui mi409 40 7 ((mi409 40 7) + 1)) ml410) none (ab_G mi422 ml423) ∧ (Q none (ab_G mi422 ml423))))))))) ∧ (¬ (r408 = 0) → (∃ (mi424 : Nat → Nat → Int32) (ml425 : Nat → Nat → Int64), call 163 [.ref 40, .int (x1 + 1)] (ab_G mi406 ml407) none (ab_G mi424 ml425) ∧ (∃ (mi426 : Nat → Nat → Int32) (ml427 : Nat → Nat → Int64), call 156 [.ref 40, .int 41] (ab_G mi424 ml425) none (ab_G mi426 ml427) ∧ (Q none (ab_G mi426 ml427)))))))) ∧ (¬ (r405 = 0) → (∃ (mi428 : Nat → Nat → Int32) (ml429 : Nat → Nat → Int64), call 166 [.ref 40, .int (x1 + 1)] (ab_G mi403 ml404) none (ab_G mi428 ml429) ∧ (Q none (ab_G mi428 (ab_ul (ab_ul ml429 40 10 ((ml429 40 10) ^^^ (-1))) 40 11 ((ml429 40 11) ^^^ (-1))))))))))))) ∧ (¬ (x1 = 6) → (((0 < (mi342 40 8)) → (Q none (ab_G mi342 ml343))) ∧ (¬ (0 < (mi342 40 8)) → (∃ (r432 : Int32) (mi430 : Nat → Nat → Int32) (ml431 : Nat → Nat → Int64), call 158 [.ref 40, .int 6] (ab_G mi342 ml343) (some (.int r432)) (ab_G mi430 ml431) ∧ (((r432 = 0) → (∃ (r435 : Int32) (mi433 : Nat → Nat → Int32) (ml434 : Nat → Nat → Int64), call 157 [.ref 40, .int 40] (ab_G mi430 ml431) (some (.int r435)) (ab_G mi433 ml434) ∧ (((r435 = 0) → (∃ (r438 : Int32) (mi436 : Nat → Nat → Int32) (ml437 : Nat → Nat → Int64), call 155 [.ref 40, .int 5] (ab_G mi433 ml434) (some (.int r438)) (ab_G mi436 ml437) ∧ (((r3 < 0) → (((r3 < 0) → (((r438 = 0) → (∃ (mi439 : Nat → Nat → Int32) (ml440 : Nat → Nat → Int64), call 162 [.ref 40, .int 0, .int 0, .int 0] (ab_G (ab_ui mi436 40 7 ((mi436 40 7) + 1)) ml437) none (ab_G mi439 ml440) ∧ (Q none (ab_G mi439 ml440)))) ∧ (¬ (r438 = 0) → (∃ (mi441 : Nat → Nat → Int32) (ml442 : Nat → Nat → Int64), call 162 [.ref 40, .int 0, .int 1, .int 0] (ab_G (ab_ui mi436 40 7 ((mi436 40 7) + 1)) ml437) none (ab_G mi441 ml442) ∧ (Q none (ab_G mi441 ml442)))))) ∧ (¬ (r3 < 0) → (∃ (mi443 : Nat → Nat → Int32) (ml444 : Nat → Nat → Int64), call 162 [.ref 40, .int 0, .int 1, .int 0] (ab_G (ab_ui mi436 40 7 ((mi436 40 7) + 1)) ml437) none (ab_G mi443 ml444) ∧ (Q none (ab_G mi443 ml444)))))) ∧ (¬ (r3 < 0) → (((r3 < 0) → (((r438 = 0) → (∃ (mi445 : Nat → Nat → Int32) (ml446 : Nat → Nat → Int64), call 162 [.ref 40, .int ((1 : Int32) <<< (r3 &&& 31)), .int 0, .int 0] (ab_G (ab_ui mi436 40 7 ((mi436 40 7) + 1)) ml437) none (ab_G mi445 ml446) ∧ (Q none (ab_G mi445 ml446)))) ∧ (¬ (r438 = 0) → (∃ (mi447 : Nat → Nat → Int32) (ml448 : Nat → Nat → Int64), call 162 [.ref 40, .int ((1 : Int32) <<< (r3 &&& 31)), .int 1, .int 0] (ab_G (ab_ui mi436 40 7 ((mi436 40 7) + 1)) ml437) none (ab_G mi447 ml448) ∧ (Q none (ab_G mi447 ml448)))))) ∧ (¬ (r3 < 0) → (∃ (mi449 : Nat → Nat → Int32) (ml450 : Nat → Nat → Int64), call 162 [.ref 40, .int ((1 : Int32) <<< (r3 &&& 31)), .int 1, .int 0] (ab_G (ab_ui mi436 40 7 ((mi436 40 7) + 1)) ml437) none (ab_G mi449 ml450) ∧ (Q none (ab_G mi449 ml450))))))))) ∧ (¬ (r435 = 0) → (∃ (mi451 : Nat → Nat → Int32) (ml452 : Nat → Nat → Int64), call 163 [.ref 40, .int (x1 + 1)] (ab_G mi433 ml434) none (ab_G mi451 ml452) ∧ (∃ (mi453 : Nat → Nat → Int32) (ml454 : Nat → Nat → Int64), call 156 [.ref 40, .int 41] (ab_G mi451 ml452) none (ab_G mi453 ml454) ∧ (Q none (ab_G mi453 ml454)))))))) ∧ (¬ (r432 = 0) → (∃ (mi455 : Nat → Nat → Int32) (ml456 : Nat → Nat → Int64), call 166 [.ref 40, .int (x1 + 1)] (ab_G mi430 ml431) none (ab_G mi455 ml456) ∧ (Q none (ab_G mi455 (ab_ul (ab_ul ml456 40 10 ((ml456 40 10) ^^^ (-1))) 40 11 ((ml456 40 11) ^^^ (-1)))))))))))))))) ∧ (¬ (r344 = 0) → (((r3 < 0) → (((x1 = 6) → (∃ (mi457 : Nat → Nat → Int32) (ml458 : Nat → Nat → Int64), call 153 [.ref 40, .int 5] (ab_G mi342 ml343) none (ab_G mi457 ml458) ∧ (((0 < (mi457 40 8)) → (Q none (ab_G mi457 ml458))) ∧ (¬ (0 < (mi457 40 8)) → (∃ (r461 : Int32) (mi459 : Nat → Nat → Int32) (ml460 : Nat → Nat → Int64), call 158 [.ref 40, .int 6] (ab_G mi457 ml458) (some (.int r461)) (ab_G mi459 ml460) ∧ (((r461 = 0) → (∃ (r464 : Int32) (mi462 : Nat → Nat → Int32) (ml463 : Nat → Nat → Int64), call 157 [.ref 40, .int 40] (ab_G mi459 ml460) (some (.int r464)) (ab_G mi462 ml463) ∧ (((r464 = 0) → (∃ (mi465 : Nat → Nat → Int32) (ml466 : Nat → Nat → Int64), call 168 [.ref 40] (ab_G mi462 ml463) none (ab_G mi465 ml466) ∧ (Q none (ab_G mi465 ml466)))) ∧ (¬ (r464 = 0) → (∃ (mi467 : Nat → Nat → Int32) (ml468 : Nat → Nat → Int64), call 163 [.ref 40, .int (x1 + 1)] (ab_G mi462 ml463) none (ab_G mi467 ml468) ∧ (∃ (mi469 : Nat → Nat → Int32) (ml470 : Nat → Nat → Int64), call 156 [.ref 40, .int 41] (ab_G mi467 ml468) none (ab_G mi469 ml470) ∧ (Q none (ab_G mi469 ml470)))))))) ∧ (¬ (r461 = 0) → (∃ (mi471 : Nat → Nat → Int32) (ml472 : Nat → Nat → Int64), call 166 [.ref 40, .int (x1 + 1)] (ab_G mi459 ml460) none (ab_G mi471 ml472) ∧ (Q none (ab_G mi471 (ab_ul (ab_ul ml472 40 10 ((ml472 40 10) ^^^ (-1))) 40 11 ((ml472 40 11) ^^^ (-1))))))))))))) ∧ (¬ (x1 = 6) → (((0 < (mi342 40 8)) → (Q none (ab_G mi342 ml343))) ∧ (¬ (0 < (mi342 40 8)) → (∃ (r475 : Int32) (mi473 : Nat → Nat → Int32) (ml474 : Nat → Nat → Int64), call 158 [.ref 40, .int 6] (ab_G mi342 ml343) (some (.int r475)) (ab_G mi473 ml474) ∧ (((r475 = 0) → (∃ (r478 : Int32) (mi476 : Nat → Nat → Int32) (ml477 : Nat → Nat → Int64), call 157 [.ref 40, .int 40] (ab_G mi473 ml474) (some (.int r478)) (ab_G mi476 ml477) ∧ (((r478 = 0) → (∃ (mi479 : Nat → Nat → Int32) (ml480 : Nat → Nat → Int64), call 168 [.ref 40] (ab_G mi476 ml477) none (ab_G mi479 ml480) ∧ (Q none (ab_G mi479 ml480)))) ∧ (¬ (r478 = 0) → (∃ (mi481 : Nat → Nat → Int32) (ml482 : Nat → Nat → Int64), call 163 [.ref 40, .int (x1 + 1)] (ab_G mi476 ml477) none (ab_G mi481 ml482) ∧ (∃ (mi483 : Nat → Nat → Int32) (ml484 : Nat → Nat → Int64), call 156 [.ref 40, .int 41] (ab_G mi481 ml482) none (ab_G mi483 ml484) ∧ (Q none (ab_G mi483 ml484)))))))) ∧ (¬ (r475 = 0) → (∃ (mi485 : Nat → Nat → Int32) (ml486 : Nat → Nat → Int64), call 166 [.ref 40, .int (x1 + 1)] (ab_G mi473 ml474) none (ab_G mi485 ml486) ∧ (Q none (ab_G mi485 (ab_ul (ab_ul ml486 40 10 ((ml486 40 10) ^^^ (-1))) 40 11 ((ml486 40 11) ^^^ (-1)))))))))))))) ∧ (¬ (r3 < 0) → (((x1 = 6) → (∃ (mi487 : Nat → Nat → Int32) (ml488 : Nat → Nat → Int64), call 153 [.ref 40, .int 5] (ab_G mi342 ml343) none (ab_G mi487 ml488) ∧ (((0 < (mi487 40 8)) → (Q none (ab_G mi487 ml488))) ∧ (¬ (0 < (mi487 40 8)) → (∃ (r491 : Int32) (mi489 : Nat → Nat → Int32) (ml490 : Nat → Nat → Int64), call 158 [.ref 40, .int 6] (ab_G mi487 ml488) (some (.int r491)) (ab_G mi489 ml490) ∧ (((r491 = 0) → (∃ (r494 : Int32) (mi492 : Nat → Nat → Int32) (ml493 : Nat → Nat → Int64), call 157 [.ref 40, .int 40] (ab_G mi489 ml490) (some (.int r494)) (ab_G mi492 ml493) ∧ (((r494 = 0) → (∃ (mi495 : Nat → Nat → Int32) (ml496 : Nat → Nat → Int64), call 168 [.ref 40] (ab_G mi492 ml493) none (ab_G mi495 ml496) ∧ (Q none (ab_G mi495 ml496)))) ∧ (¬ (r494 = 0) → (∃ (mi497 : Nat → Nat → Int32) (ml498 : Nat → Nat → Int64), call 163 [.ref 40, .int (x1 + 1)] (ab_G mi492 ml493) none (ab_G mi497 ml498) ∧ (∃ (mi499 : Nat → Nat → Int32) (ml500 : Nat → Nat → Int64), call 156 [.ref 40, .int 41] (ab_G mi497 ml498) none (ab_G mi499 ml500) ∧ (Q none (ab_G mi499 ml500)))))))) ∧ (¬ (r491 = 0) → (∃ (mi501 : Nat → Nat → Int32) (ml502 : Nat → Nat → Int64), call 166 [.ref 40, .int (x1 + 1)] (ab_G mi489 ml490) none (ab_G mi501 ml502) ∧ (Q none (ab_G mi501 (ab_ul (ab_ul ml502 40 10 ((ml502 40 10) ^^^ (-1))) 40 11 ((ml502 40 11) ^^^ (-1))))))))))))) ∧ (¬ (x1 = 6) → (((0 < (mi342 40 8)) → (Q none (ab_G mi342 ml343))) ∧ (¬ (0 < (mi342 40 8)) → (∃ (r505 : Int32) (mi503 : Nat → Nat → Int32) (ml504 : Nat → Nat → Int64), call 158 [.ref 40, .int 6] (ab_G mi342 ml343) (some (.int r505)) (ab_G mi503 ml504) ∧ (((r505 = 0) → (∃ (r508 : Int32) (mi506 : Nat → Nat → Int32) (ml507 : Nat → Nat → Int64), call 157 [.ref 40, .int 40] (ab_G mi503 ml504) (some (.int r508)) (ab_G mi506 ml507) ∧ (((r508 = 0) → (∃ (mi509 : Nat → Nat → Int32) (ml510 : Nat → Nat → Int64), call 168 [.ref 40] (ab_G mi506 ml507) none (ab_G mi509 ml510) ∧ (Q none (ab_G mi509 ml510)))) ∧ (¬ (r508 = 0) → (∃ (mi511 : Nat → Nat → Int32) (ml512 : Nat → Nat → Int64), call 163 [.ref 40, .int (x1 + 1)] (ab_G mi506 ml507) none (ab_G mi511 ml512) ∧ (∃ (mi513 : Nat → Nat → Int32) (ml514 : Nat → Nat → Int64), call 156 [.ref 40, .int 41] (ab_G mi511 ml512) none (ab_G mi513 ml514) ∧ (Q none (ab_G mi513 ml514)))))))) ∧ (¬ (r505 = 0) → (∃ (mi515 : Nat → Nat → Int32) (ml516 : Nat → Nat → Int64), call 166 [.ref 40, .int (x1 + 1)] (ab_G mi503 ml504) none (ab_G mi515 ml516) ∧ (Q none (ab_G mi515 (ab_ul (ab_ul ml516 40 10 ((ml516 40 10) ^^^ (-1))) 40 11 ((ml516 40 11) ^^^ (-1))))))))))))))))))) ∧ (¬ (r341 = 0) → (((r3 < 0) → (((x1 = 6) → (∃ (mi517 : Nat → Nat → Int32) (ml518 : Nat → Nat → Int64), call 153 [.ref 40, .int 5] (ab_G mi339 ml340) none (ab_G mi517 ml518) ∧ (((0 < (mi517 40 8)) → (Q none (ab_G mi517 ml518))) ∧ (¬ (0 < (mi517 40 8)) → (∃ (r521 : Int32) (mi519 : Nat → Nat → Int32) (ml520 : Nat → Nat → Int64), call 158 [.ref 40, .int 6] (ab_G mi517 ml518) (some (.int r521)) (ab_G mi519 ml520) ∧ (((r521 = 0) → (∃ (r524 : Int32) (mi522 : Nat → Nat → Int32) (ml523 : Nat → Nat → Int64), call 157 [.ref 40, .int 40] (ab_G mi519 ml520) (some (.int r524)) (ab_G mi522 ml523) ∧ (((r524 = 0) → (∃ (mi525 : Nat → Nat → Int32) (ml526 : Nat → Nat → Int64), call 168 [.ref 40] (ab_G mi522 ml523) none (ab_G mi525 ml526) ∧ (Q none (ab_G mi525 ml526)))) ∧ (¬ (r524 = 0) → (∃ (mi527 : Nat → Nat → Int32) (ml528 : Nat → Nat → Int64), call 163 [.ref 40, .int (x1 + 1)] (ab_G mi522 ml523) none (ab_G mi527 ml528) ∧ (∃ (mi529 : Nat → Nat → Int32) (ml530 : Nat → Nat → Int64), call 156 [.ref 40, .int 41] (ab_G mi527 ml528) none (ab_G mi529 ml530) ∧ (Q none (ab_G mi529 ml530)))))))) ∧ (¬ (r521 = 0) → (∃ (mi531 : Nat → Nat → Int32) (ml532 : Nat → Nat → Int64), call 166 [.ref 40, .int (x1 + 1)] (ab_G mi519 ml520) none (ab_G mi531 ml532) ∧ (Q none (ab_G mi531 (ab_ul (ab_ul ml532 40 10 ((ml532 40 10) ^^^ (-1))) 40 11 ((ml532 40 11) ^^^ (-1))))))))))))) ∧ (¬ (x1 = 6) → (((0 < (mi339 40 8)) → (Q none (ab_G mi339 ml340))) ∧ (¬ (0 < (mi339 40 8)) → (∃ (r535 : Int32) (mi533 : Nat → Nat → Int32) (ml534 : Nat → Nat → Int64), call 158 [.ref 40, .int 6] (ab_G mi339 ml340) (some (.int r535)) (ab_G mi533 ml534) ∧ (((r535 = 0) → (∃ (r538 : Int32) (mi536 : Nat → Nat → Int32) (ml537 : Nat → Nat → Int64), call 157 [.ref 40, .int 40] (ab_G mi533 ml534) (some (.int r538)) (ab_G mi536 ml537) ∧ (((r538 = 0) → (∃ (mi539 : Nat → Nat → Int32) (ml540 : Nat → Nat → Int64), call 168 [.ref 40] (ab_G mi536 ml537) none (ab_G mi539 ml540) ∧ (Q none (ab_G mi539 ml540)))) ∧ (¬ (r538 = 0) → (∃ (mi541 : Nat → Nat → Int32) (ml542 : Nat → Nat → Int64), call 163 [.ref 40, .int (x1 + 1)] (ab_G mi536 ml537) none (ab_G mi541 ml542) ∧ (∃ (mi543 : Nat → Nat → Int32) (ml544 : Nat → Nat → Int64), call 156 [.ref 40, .int 41] (ab_G mi541 ml542) none (ab_G mi543 ml544) ∧ (Q none (ab_G mi543 ml544)))))))) ∧ (¬ (r535 = 0) → (∃ (mi545 : Nat → Nat → Int32) (ml546 : Nat → Nat → Int64), call 166 [.ref 40, .int (x1 + 1)] (ab_G mi533 ml534) none (ab_G mi545 ml546) ∧ (Q none (ab_G mi545 (ab_ul (ab_ul ml546 40 10 ((ml546 40 10) ^^^ (-1))) 40 11 ((ml546 40 11) ^^^ (-1)))))))))))))) ∧ (¬ (r3 < 0) → (((x1 = 6) → (∃ (mi547 : Nat → Nat → Int32) (ml548 : Nat → Nat → Int64), call 153 [.ref 40, .int 5] (ab_G mi339 ml340) none (ab_G mi547 ml548) ∧ (((0 < (mi547 40 8)) → (Q none (ab_G mi547 ml548))) ∧ (¬ (0 < (mi547 40 8)) → (∃ (r551 : Int32) (mi549 : Nat → Nat → Int32) (ml550 : Nat → Nat → Int64), call 158 [.ref 40, .int 6] (ab_G mi547 ml548) (some (.int r551)) (ab_G mi549 ml550) ∧ (((r551 = 0) → (∃ (r554 : Int32) (mi552 : Nat → Nat → Int32) (ml553 : Nat → Nat → Int64), call 157 [.ref 40, .int 40] (ab_G mi549 ml550) (some (.int r554)) (ab_G mi552 ml553) ∧ (((r554 = 0) → (∃ (mi555 : Nat → Nat → Int32) (ml556 : Nat → Nat → Int64), call 168 [.ref 40] (ab_G mi552 ml553) none (ab_G mi555 ml556) ∧ (Q none (ab_G mi555 ml556)))) ∧ (¬ (r554 = 0) → (∃ (mi557 : Nat → Nat → Int32) (ml558 : Nat → Nat → Int64), call 163 [.ref 40, .int (x1 + 1)] (ab_G mi552 ml553) none (ab_G mi557 ml558) ∧ (∃ (mi559 : Nat → Nat → Int32) (ml560 : Nat → Nat → Int64), call 156 [.ref 40, .int 41] (ab_G mi557 ml558) none (ab_G mi559 ml560) ∧ (Q none (ab_G mi559 ml560)))))))) ∧ (¬ (r551 = 0) → (∃ (mi561 : Nat → Nat → Int32) (ml562 : Nat → Nat → Int64), call 166 [.ref 40, .int (x1 + 1)] (ab_G mi549 ml550) none (ab_G mi561 ml562) ∧ (Q none (ab_G mi561 (ab_ul (ab_ul ml562 40 10 ((ml562 40 10) ^^^ (-1))) 40 11 ((ml562 40 11) ^^^ (-1))))))))))))) ∧ (¬ (x1 = 6) → (((0 < (mi339 40 8)) → (Q none (ab_G mi339 ml340))) ∧ (¬ (0 < (mi339 40 8)) → (∃ (r565 : Int32) (mi563 : Nat → Nat → Int32) (ml564 : Nat → Nat → Int64), call 158 [.ref 40, .int 6] (ab_G mi339 ml340) (some (.int r565)) (ab_G mi563 ml564) ∧ (((r565 = 0) → (∃ (r568 : Int32) (mi566 : Nat → Nat → Int32) (ml567 : Nat → Nat → Int64), call 157 [.ref 40, .int 40] (ab_G mi563 ml564) (some (.int r568)) (ab_G mi566 ml567) ∧ (((r568 = 0) → (∃ (mi569 : Nat → Nat → Int32) (ml570 : Nat → Nat → Int64), call 168 [.ref 40] (ab_G mi566 ml567) none (ab_G mi569 ml570) ∧ (Q none (ab_G mi569 ml570)))) ∧ (¬ (r568 = 0) → (∃ (mi571 : Nat → Nat → Int32) (ml572 : Nat → Nat → Int64), call 163 [.ref 40, .int (x1 + 1)] (ab_G mi566 ml567) none (ab_G mi571 ml572) ∧ (∃ (mi573 : Nat → Nat → Int32) (ml574 : Nat → Nat → Int64), call 156 [.ref 40, .int 41] (ab_G mi571 ml572) none (ab_G mi573 ml574) ∧ (Q none (ab_G mi573 ml574)))))))) ∧ (¬ (r565 = 0) → (∃ (mi575 : Nat → Nat → Int32) (ml576 : Nat → Nat → Int64), call 166 [.ref 40, .int (x1 + 1)] (ab_G mi563 ml564) none (ab_G mi575 ml576) ∧ (Q none (ab_G mi575 (ab_ul (ab_ul ml576 40 10 ((ml576 40 10) ^^^ (-1))) 40 11 ((ml576 40 11) ^^^ (-1)))))))))))))))))))))) ∧ (¬ (r6 = 0) → (∃ (r579 : Int32) (mi577 : Nat → Nat → Int32) (ml578 : Nat → Nat → Int64), call 155 [.ref 40, .int 8] (ab_G mi4 ml5) (some (.int r579)) (ab_G mi577 ml578) ∧ (((r579 = 0) → (∃ (r582 : Int32) (mi580 : Nat → Nat → Int32) (ml581 : Nat → Nat → Int64), call 155 [.ref 40, .int 9] (ab_G mi577 ml578) (some (.int r582)) (ab_G mi580 ml581) ∧ (((r582 = 0) → (((r3 < 0) → (((x1 = 6) → (∃ (mi583 : Nat → Nat → Int32) (ml584 : Nat → Nat → Int64), call 153 [.ref 40, .int 5] (ab_G mi580 ml581) none (ab_G mi583 ml584) ∧ (((0 < (mi583 40 8)) → (Q none (ab_G mi583 ml584))) ∧ (¬ (0 < (mi583 40 8)) → (∃ (r587 : Int32) (mi585 : Nat → Nat → Int32) (ml586 : Nat → Nat → Int64), call 158 [.ref 40, .int 6] (ab_G mi583 ml584) (some (.int r587)) (ab_G mi585 ml586) ∧ (((r587 = 0) → (∃ (r590 : Int32) (mi588 : Nat → Nat → Int32) (ml589 : Nat → Nat → Int64), call 157 [.ref 40, .int 40] (ab_G mi585 ml586) (some (.int r590)) (ab_G mi588 ml589) ∧ (((r590 = 0) → (∃ (r593 : Int32) (mi591 : Nat → Nat → Int32) (ml592 : Nat → Nat → Int64), call 155 [.ref 40, .int 5] (ab_G mi588 ml589) (some (.int r593)) (ab_G mi591 ml592) ∧ (((r3 < 0) → (((r3 < 0) → (((r593 = 0) → (∃ (mi594 : Nat → Nat → Int32) (ml595 : Nat → Nat → Int64), call 162 [.ref 40, .int 0, .int 0, .int 0] (ab_G (ab_ui mi591 40 7 ((mi591 40 7) + 1)) ml592) none (ab_G mi594 ml595) ∧ (Q none (ab_G mi594 ml595)))) ∧ (¬ (r593 = 0) → (∃ (mi596 : Nat → Nat → Int32) (ml597 : Nat → Nat → Int64), call 162 [.ref 40, .int 0, .int 1, .int 0] (ab_G (ab_ui mi591 40 7 ((mi591 40 7) + 1)) ml592) none (ab_G mi596 ml597) ∧ (Q none (ab_G mi596 ml597)))))) ∧ (¬ (r3 < 0) → (∃ (mi598 : Nat → Nat → Int32) (ml599 : Nat → Nat → Int64), call 162 [.ref 40, .int 0, .int 1, .int 0] (ab_G (ab_ui mi591 40 7 ((mi591 40 7) + 1)) ml592) none (ab_G mi598 ml599) ∧ (Q none (ab_G mi598 ml599)))))) ∧ (¬ (r3 < 0) → (((r3 < 0) → (((r593 = 0) → (∃ (mi600 : Nat → Nat → Int32) (ml601 : Nat → Nat → Int64), call 162 [.ref 40, .int ((1 : Int32) <<< (r3 &&& 31)), .int 0, .int 0] (ab_G (ab_ui mi591 40 7 ((mi591 40 7) + 1)) ml592) none (ab_G mi600 ml601) ∧ (Q none (ab_G mi600 ml601)))) ∧ (¬ (r593 = 0) → (∃ (mi602 : Nat → Nat → Int32) (ml603 : Nat → Nat → Int64), call 162 [.ref 40, .int ((1 : Int32) <<< (r3 &&& 31)), .int 1, .int 0] (ab_G (ab_ui mi591 40 7 ((mi591 40 7) + 1)) ml592) none (ab_G mi602 ml603) ∧ (Q none (ab_G mi602 ml603)))))) ∧ (¬ (r3 < 0) → (∃ (mi604 : Nat → Nat → Int32) (ml605 : Nat → Nat → Int64), call 162 [.ref 40, .int ((1 : Int32) <<< (r3 &&& 31)), .int 1, .int 0] (ab_G (ab_ui mi591 40 7 ((mi591 40 7) + 1)) ml592) none (ab_G mi604 ml605) ∧ (Q none (ab_G mi604 ml605))))))))) ∧ (¬ (r590 = 0) → (∃ (mi606 : Nat → Nat → Int32) (ml607 : Nat → Nat → Int64), call 163 [.ref 40, .int (x1 + 1)] (ab_G mi588 ml589) none (ab_G mi606 ml607) ∧ (∃ (mi608 : Nat → Nat → Int32) (ml609 : Nat → Nat → Int64), call 156 [.ref 40, .int 41] (ab_G mi606 ml607) none (ab_G mi608 ml609) ∧ (Q none (ab_G mi608 ml609)))))))) ∧ (¬ (r587 = 0) → (∃ (mi610 : Nat → Nat → Int32) (ml611 : Nat → Nat → Int64), call 166 [.ref 40, .int (x1 + 1)] (ab_G mi585 ml586) none (ab_G mi610 ml611) ∧ (Q none (ab_G mi610 (ab_ul (ab_ul ml611 40 10 ((ml611 40 10) ^^^ (-1))) 40 11 ((ml611 40 11) ^^^ (-1))))))))))))) ∧ (¬ (x1 = 6) → (((0 < (mi580 40 8)) → (Q none (ab_G mi580 ml581))) ∧ (¬ (0 < (mi580 40 8)) → (∃ (r614 : Int32) (mi612 : Nat → Nat → Int32) (ml613 : Nat → Nat → Int64), call 158 [.ref 40, .int 6] (ab_G mi580 ml581) (some (.int r614)) (ab_G mi612 ml613) ∧ (((r614 = 0) → (∃ (r617 : Int32) (mi615 : Nat → Nat → Int32) (ml616 : Nat → Nat → Int64), call 157 [.ref 40, .int 40] (ab_G mi612 ml613) (some (.int r617)) (ab_G mi615 ml616) ∧ (((r617 = 0) → (∃ (r620 : Int32) (mi618 : Nat → Nat → Int32) (ml619 : Nat → Nat → Int64), call 155 [.ref 40, .int 5] (ab_G mi615 ml616) (some (.int r620)) (ab_G mi618 ml619) ∧ (((r3 < 0) → (((r3 < 0) → (((r620 = 0) → (∃ (mi621 : Nat → Nat → Int32) (ml622 : Nat → Nat → Int64), call 162 [.ref 40, .int 0, .int 0, .int 0] (ab_G (ab_ui mi618 40 7 ((mi618 40 7) + 1)) ml619) none (ab_G mi621 ml622) ∧ (Q none (ab_G mi621 ml622)))) ∧ (¬ (r620 = 0) → (∃ (mi623 : Nat → Nat → Int32) (ml624 : Nat → Nat → Int64), call 162 [.ref 40, .int 0, .int 1, .int 0] (ab_G (ab_ui mi618 40 7 ((mi618 40 7) + 1)) ml619) none (ab_G mi623 ml624) ∧ (Q none (ab_G mi623 ml624)))))) ∧ (¬ (r3 < 0) → (∃ (mi625 : Nat → Nat → Int32) (ml626 : Nat → Nat → Int64), call 162 [.ref 40, .int 0, .int 1, .int 0] (ab_G (ab_ui mi618 40 7 ((mi618 40 7) + 1)) ml619) none (ab_G mi625 ml626) ∧ (Q none (ab_G mi625 ml626)))))) ∧ (¬ (r3 < 0) → (((r3 < 0) → (((r620 = 0) → (∃ (mi627 : Nat → Nat → Int32) (ml628 : Nat → Nat → Int64), call 162 [.ref 40, .int ((1 : Int32) <<< (r3 &&& 31)), .int 0, .int 0] (ab_G (ab_ui mi618 40 7 ((mi618 40 7) + 1)) ml619) none (ab_G mi627 ml628) ∧ (Q none (ab_G mi627 ml628)))) ∧ (¬ (r620 = 0) → (∃ (mi629 : Nat → Nat → Int32) (ml630 : Nat → Nat → Int64), call 162 [.ref 40, .int ((1 : Int32) <<< (r3 &&& 31)), .int 1, .int 0] (ab_G (ab_ui mi618 40 7 ((mi618 40 7) + 1)) ml619) none (ab_G mi629 ml630) ∧ (Q none (ab_G mi629 ml630)))))) ∧ (¬ (r3 < 0) → (∃ (mi631 : Nat → Nat → Int32) (ml632 : Nat → Nat → Int64), call 162 [.ref 40, .int ((1 : Int32) <<< (r3 &&& 31)), .int 1, .int 0] (ab_G (ab_ui mi618 40 7 ((mi618 40 7) + 1)) ml619) none (ab_G mi631 ml632) ∧ (Q none (ab_G mi631 ml632))))))))) ∧ (¬ (r617 = 0) → (∃ (mi633 : Nat → Nat → Int32) (ml634 : Nat → Nat → Int64), call 163 [.ref 40, .int (x1 + 1)] (ab_G mi615 ml616) none (ab_G mi633 ml634) ∧ (∃ (mi635 : Nat → Nat → Int32) (ml636 : Nat → Nat → Int64), call 156 [.ref 40, .int 41] (ab_G mi633 ml634) none (ab_G mi635 ml636) ∧ (Q none (ab_G mi635 ml636)))))))) ∧ (¬ (r614 = 0) → (∃ (mi637 : Nat → Nat → Int32) (ml638 : Nat → Nat → Int64), call 166 [.ref 40, .int (x1 + 1)] (ab_G mi612 ml613) none (ab_G mi637 ml638) ∧ (Q none (ab_G mi637 (ab_ul (ab_ul ml638 40 10 ((ml638 40 10) ^^^ (-1))) 40 11 ((ml638 40 11) ^^^ (-1)))))))))))))) ∧ (¬ (r3 < 0) → (((x1 = 6) → (∃ (mi639 : Nat → Nat → Int32) (ml640 : Nat → Nat → Int64), call 153 [.ref 40, .int 5] (ab_G mi580 ml581) none (ab_G mi639 ml640) ∧ (((0 < (mi639 40 8)) → (Q none (ab_G mi639 ml640))) ∧ (¬ (0 < (mi639 40 8)) → (∃ (r643 : Int32) (mi641 : Nat → Nat → Int32) (ml642 : Nat → Nat → Int64), call 158 [.ref 40, .int 6] (ab_G mi639 ml640) (some (.int r643)) (ab_G mi641 ml642) ∧ (((r643 = 0) → (∃ (r646 : Int32) (mi644 : Nat → Nat → Int32) (ml645 : Nat → Nat → Int64), call 157 [.ref 40, .int 40] (ab_G mi641 ml642) (some (.int r646)) (ab_G mi644 ml645) ∧ (((r646 = 0) → (∃ (r649 : Int32) (mi647 : Nat → Nat → Int32) (ml648 : Nat → Nat → Int64), call 155 [.ref 40, .int 5] (ab_G mi644 ml645) (some (.int r649)) (ab_G mi647 ml648) ∧ (((r3 < 0) → (((r3 < 0) → (((r649 = 0) → (∃ (mi650 : Nat → Nat → Int32) (ml651 : Nat → Nat → Int64), call 162 [.ref 40, .int 0, .int 0, .int 0] (ab_G (ab_ui mi647 40 7 ((mi647 40 7) + 1)) ml648) none (ab_G mi650 ml651) ∧ (Q none (ab_G mi650 ml651)))) ∧ (¬ (r649 = 0) → (∃ (mi652 : Nat → Nat → Int32) (ml653 : Nat → Nat → Int64), call 162 [.ref 40, .int 0, .int 1, .int 0] (ab_G (ab_ui mi647 40 7 ((mi647 40 7) + 1)) ml648) none (ab_G mi652 ml653) ∧ (Q none (ab_G mi652 ml653)))))) ∧ (¬ (r3 < 0) → (∃ (mi654 : Nat → Nat → Int32) (ml655 : Nat → Nat → Int64), call 162 [.ref 40, .int 0, .int 1, .int 0] (ab_G (ab_ui mi647 40 7 ((mi647 40 7) + 1)) ml648) none (ab_G mi654 ml655) ∧ (Q none (ab_G mi654 ml655)))))) ∧ (¬ (r3 < 0) → (((r3 < 0) → (((r649 = 0) → (∃ (mi656 : Nat → Nat → Int32) (ml657 : Nat → Nat → Int64), call 162 [.ref 40, .int ((1 : Int32) <<< (r3 &&& 31)), .int 0, .int 0] (ab_G (ab_ui mi647 40 7 ((mi647 40 7) + 1)) ml648) none (ab_G mi656 ml657) ∧ (Q none (ab_G mi656 ml657)))) ∧ (¬ (r649 = 0) → (∃ (mi658 : Nat → Nat → Int32) (ml659 : Nat → Nat → Int64), call 162 [.ref 40, .int ((1 : Int32) <<< (r3 &&& 31)), .int 1, .int 0] (ab_G (ab_ui mi647 40 7 ((mi647 40 7) + 1)) ml648) none (ab_G mi658 ml659) ∧ (Q none (ab_G mi658 ml659)))))) ∧ (¬ (r3 < 0) → (∃ (mi660 : Nat → Nat → Int32) (ml661 : Nat → Nat → Int64), call 162 [.ref 40, .int ((1 : Int32) <<< (r3 &&& 31)), .int 1, .int 0] (ab_G (ab_ui mi647 40 7 ((mi647 40 7) + 1)) ml648) none (ab_G mi660 ml661) ∧ (Q none (ab_G mi660 ml661))))))))) ∧ (¬ (r646 = 0) → (∃ (mi662 : Nat → Nat → Int32) (ml663 : Nat → Nat → Int64), call 163 [.ref 40, .int (x1 + 1)] (ab_G mi644 ml645) none (ab_G mi662 ml663) ∧ (∃ (mi664 : Nat → Nat → Int32) (ml665 : Nat → Nat → Int64), call 156 [.ref 40, .int 41] (ab_G mi662 ml663) none (ab_G mi664 ml665) ∧ (Q none (ab_G mi664 ml665)))))))) ∧ (¬ (r643 = 0) → (∃ (mi666 : Nat → Nat → Int32) (ml667 : Nat → Nat → Int64), call 166 [.ref 40, .int (x1 + 1)] (ab_G mi641 ml642) none (ab_G mi666 ml667) ∧ (Q none (ab_G mi666 (ab_ul (ab_ul ml667 40 10 ((ml667 40 10) ^^^ (-1))) 40 11 ((ml667 40 11) ^^^ (-1))))))))))))) ∧ (¬ (x1 = 6) → (((0 < (mi580 40 8)) → (Q none (ab_G mi580 ml581))) ∧ (¬ (0 < (mi580 40 8)) → (∃ (r670 : Int32) (mi668 : Nat → Nat → Int32) (ml669 : Nat → Nat → Int64), call 158 [.ref 40, .int 6] (ab_G mi580 ml581) (some (.int r670)) (ab_G mi668 ml669) ∧ (((r670 = 0) → (∃ (r673 : Int32) (mi671 : Nat → Nat → Int32) (ml672 : Nat → Nat → Int64), call 157 [.ref 40, .int 40] (ab_G mi668 ml669) (some (.int r673)) (ab_G mi671 ml672) ∧ (((r673 = 0) → (∃ (r676 : Int32) (mi674 : Nat → Nat → Int32) (ml675 : Nat → Nat → Int64), call 155 [.ref 40, .int 5] (ab_G mi671 ml672) (some (.int r676)) (ab_G mi674 ml675) ∧ (((r3 < 0) → (((r3 < 0) → (((r676 = 0) → (∃ (mi677 : Nat → Nat → Int32) (ml678 : Nat → Nat → Int64), call 162 [.ref 40, .int 0, .int 0, .int 0] (ab_G (ab_ui mi674 40 7 ((mi674 40 7) + 1)) ml675) none (ab_G mi677 ml678) ∧ (Q none (ab_G mi677 ml678)))) ∧ (¬ (r676 = 0) → (∃ (mi679 : Nat → Nat → Int32) (ml680 : Nat → Nat → Int64), call 162 [.ref 40, .int 0, .int 1, .int 0] (ab_G (ab_ui mi674 40 7 ((mi674 40 7) + 1)) ml675) none (ab_G mi679 ml680) ∧ (Q none (ab_G mi679 ml680)))))) ∧ (¬ (r3 < 0) → (∃ (mi681 : Nat → Nat → Int32) (ml682 : Nat → Nat → Int64), call 162 [.ref 40, .int 0, .int 1, .int 0] (ab_G (ab_ui mi674 40 7 ((mi674 40 7) + 1)) ml675) none (ab_G mi681 ml682) ∧ (Q none (ab_G mi681 ml682)))))) ∧ (¬ (r3 < 0) → (((r3 < 0) → (((r676 = 0) → (∃ (mi683 : Nat → Nat → Int32) (ml684 : Nat → Nat → Int64), call 162 [.ref 40, .int ((1 : Int32) <<< (r3 &&& 31)), .int 0, .int 0] (ab_G (ab_ui mi674 40 7 ((mi674 40 7) + 1)) ml675) none (ab_G mi683 ml684) ∧ (Q none (ab_G mi683 ml684)))) ∧ (¬ (r676 = 0) → (∃ (mi685 : Nat → Nat → Int32) (ml686 : Nat → Nat → Int64), call 162 [.ref 40, .int ((1 : Int32) <<< (r3 &&& 31)), .int 1, .int 0] (ab_G (ab_ui mi674 40 7 ((mi674 40 7) + 1)) ml675) none (ab_G mi685 ml686) ∧ (Q none (ab_G mi685 ml686)))))) ∧ (¬ (r3 < 0) → (∃ (mi687 : Nat → Nat → Int32) (ml688 : Nat → Nat → Int64), call 162 [.ref 40, .int ((1 : Int32) <<< (r3 &&& 31)), .int 1, .int 0] (ab_G (ab_ui mi674 40 7 ((mi674 40 7) + 1)) ml675) none (ab_G mi687 ml688) ∧ (Q none (ab_G mi687 ml688))))))))) ∧ (¬ (r673 = 0) → (∃ (mi689 : Nat → Nat → Int32) (ml690 : Nat → Nat → Int64), call 163 [.ref 40, .int (x1 + 1)] (ab_G mi671 ml672) none (ab_G mi689 ml690) ∧ (∃ (mi691 : Nat → Nat → Int32) (ml692 : Nat → Nat → Int64), call 156 [.ref 40, .int 41] (ab_G mi689 ml690) none (ab_G mi691 ml692) ∧ (Q none (ab_G mi691 ml692)))))))) ∧ (¬ (r670 = 0) → (∃ (mi693 : Nat → Nat → Int32) (ml694 : Nat → Nat → Int64), call 166 [.ref 40, .int (x1 + 1)] (ab_G mi668 ml669) none (ab_G mi693 ml694) ∧ (Q none (ab_G mi693 (ab_ul (ab_ul ml694 40 10 ((ml694 40 10) ^^^ (-1))) 40 11 ((ml694 40 11) ^^^ (-1)))))))))))))))) ∧ (¬ (r582 = 0) → (((r3 < 0) → (((x1 = 6) → (∃ (mi695 : Nat → Nat → Int32) (ml696 : Nat → Nat → Int64), call 153 [.ref 40, .int 5] (ab_G mi580 ml581) none (ab_G mi695 ml696) ∧ (((0 < (mi695 40 8)) → (Q none (ab_G mi695 ml696))) ∧ (¬ (0 < (mi695 40 8)) → (∃ (r699 : Int32) (mi697 : Nat → Nat → Int32) (ml698 : Nat → Nat → Int64), call 158 [.ref 40, .int 6] (ab_G mi695 ml696) (some (.int r699)) (ab_G mi697 ml698) ∧ (((r699 = 0) → (∃ (r702 : Int32) (mi700 : Nat → Nat → Int32) (ml701 : Nat → Nat → Int64), call 157 [.ref 40, .int 40] (ab_G mi697 ml698) (some (.int r702)) (ab_G mi700 ml701) ∧ (((r702 = 0) → (∃ (mi703 : Nat → Nat → Int32) (ml704 : Nat → Nat → Int64), call 168 [.ref 40] (ab_G mi700 ml701) none (ab_G mi703 ml704) ∧ (Q none (ab_G mi703 ml704)))) ∧ (¬ (r702 = 0) → (∃ (mi705 : Nat → Nat → Int32) (ml706 : Nat → Nat → Int64), call 163 [.ref 40, .int (x1 + 1)] (ab_G mi700 ml701) none (ab_G mi705 ml706) ∧ (∃ (mi707 : Nat → Nat → Int32) (ml708 : Nat → Nat → Int64), call 156 [.ref 40, .int 41] (ab_G mi705 ml706) none (ab_G mi707 ml708) ∧ (Q none (ab_G mi707 ml708)))))))) ∧ (¬ (r699 = 0) → (∃ (mi709 : Nat → Nat → Int32) (ml710 : Nat → Nat → Int64), call 166 [.ref 40, .int (x1 + 1)] (ab_G mi697 ml698) none (ab_G mi709 ml710) ∧ (Q none (ab_G mi709 (ab_ul (ab_ul ml710 40 10 ((ml710 40 10) ^^^ (-1))) 40 11 ((ml710 40 11) ^^^ (-1))))))))))))) ∧ (¬ (x1 = 6) → (((0 < (mi580 40 8)) → (Q none (ab_G mi580 ml581))) ∧ (¬ (0 < (mi580 40 8)) → (∃ (r713 : Int32) (mi711 : Nat → Nat → Int32) (ml712 : Nat → Nat → Int64), call 158 [.ref 40, .int 6] (ab_G mi580 ml581) (some (.int r713)) (ab_G mi711 ml712) ∧ (((r713 = 0) → (∃ (r716 : Int32) (mi714 : Nat → Nat → Int32) (ml715 : Nat → Nat → Int64), call 157 [.ref 40, .int 40] (ab_G mi711 ml712) (some (.int r716)) (ab_G mi714 ml715) ∧ (((r716 = 0) → (∃ (mi717 : Nat → Nat → Int32) (ml718 : Nat → Nat → Int64), call 168 [.ref 40] (ab_G mi714 ml715) none (ab_G mi717 ml718) ∧ (Q none (ab_G mi717 ml718)))) ∧ (¬ (r716 = 0) → (∃ (mi719 : Nat → Nat → Int32) (ml720 : Nat → Nat → Int64), call 163 [.ref 40, .int (x1 + 1)] (ab_G mi714 ml715) none (ab_G mi719 ml720) ∧ (∃ (mi721 : Nat → Nat → Int32) (ml722 : Nat → Nat → Int64), call 156 [.ref 40, .int 41] (ab_G mi719 ml720) none (ab_G mi721 ml722) ∧ (Q none (ab_G mi721 ml722)))))))) ∧ (¬ (r713 = 0) → (∃ (mi723 : Nat → Nat → Int32) (ml724 : Nat → Nat → Int64), call 166 [.ref 40, .int (x1 + 1)] (ab_G mi711 ml712) none (ab_G mi723 ml724) ∧ (Q none (ab_G mi723 (ab_ul (ab_ul ml724 40 10 ((ml724 40 10) ^^^ (-1))) 40 11 ((ml724 40 11) ^^^ (-1)))))))))))))) ∧ (¬ (r3 < 0) → (((x1 = 6) → (∃ (mi725 : Nat → Nat → Int32) (ml726 : Nat → Nat → Int64), call 153 [.ref 40, .int 5] (ab_G mi580 ml581) none (ab_G mi725 ml726) ∧ (((0 < (mi725 40 8)) → (Q none (ab_G mi725 ml726))) ∧ (¬ (0 < (mi725 40 8)) → (∃ (r729 : Int32) (mi727 : Nat → Nat → Int32) (ml728 : Nat → Nat → Int64), call 158 [.ref 40, .int 6] (ab_G mi725 ml726) (some (.int r729)) (ab_G mi727 ml728) ∧ (((r729 = 0) → (∃ (r732 : Int32) (mi730 : Nat → Nat → Int32) (ml731 : Nat → Nat → Int64), call 157 [.ref 40, .int 40] (ab_G mi727 ml728) (some (.int r732)) (ab_G mi730 ml731) ∧ (((r732 = 0) → (∃ (mi733 : Nat → Nat → Int32) (ml734 : Nat → Nat → Int64), call 168 [.ref 40] (ab_G mi730 ml731) none (ab_G mi733 ml734) ∧ (Q none (ab_G mi733 ml734)))) ∧ (¬ (r732 = 0) → (∃ (mi735 : Nat → Nat → Int32) (ml736 : Nat → Nat → Int64), call 163 [.ref 40, .int (x1 + 1)] (ab_G mi730 ml731) none (ab_G mi735 ml736) ∧ (∃ (mi737 : Nat → Nat → Int32) (ml738 : Nat → Nat → Int64), call 156 [.ref 40, .int 41] (ab_G mi735 ml736) none (ab_G mi737 ml738) ∧ (Q none (ab_G mi737 ml738)))))))) ∧ (¬ (r729 = 0) → (∃ (mi739 : Nat → Nat → Int32) (ml740 : Nat → Nat → Int64), call 166 [.ref 40, .int (x1 + 1)] (ab_G mi727 ml728) none (ab_G mi739 ml740) ∧ (Q none (ab_G mi739 (ab_ul (ab_ul ml740 40 10 ((ml740 40 10) ^^^ (-1))) 40 11 ((ml740 40 11) ^^^ (-1))))))))))))) ∧ (¬ (x1 = 6) → (((0 < (mi580 40 8)) → (Q none (ab_G mi580 ml581))) ∧ (¬ (0 < (mi580 40 8)) → (∃ (r743 : Int32) (mi741 : Nat → Nat → Int32) (ml742 : Nat → Nat → Int64), call 158 [.ref 40, .int 6] (ab_G mi580 ml581) (some (.int r743)) (ab_G mi741 ml742) ∧ (((r743 = 0) → (∃ (r746 : Int32) (mi744 : Nat → Nat → Int32) (ml745 : Nat → Nat → Int64), call 157 [.ref 40, .int 40] (ab_G mi741 ml742) (some (.int r746)) (ab_G mi744 ml745) ∧ (((r746 = 0) → (∃ (mi747 : Nat → Nat → Int32) (ml748 : Nat → Nat → Int64), call 168 [.ref 40] (ab_G mi744 ml745) none (ab_G mi747 ml748) ∧ (Q none (ab_G mi747 ml748)))) ∧ (¬ (r746 = 0) → (∃ (mi749 : Nat → Nat → Int32) (ml750 : Nat → Nat → Int64), call 163 [.ref 40, .int (x1 + 1)] (ab_G mi744 ml745) none (ab_G mi749 ml750) ∧ (∃ (mi751 : Nat → Nat → Int32) (ml752 : Nat → Nat → Int64), call 156 [.ref 40, .int 41] (ab_G mi749 ml750) none (ab_G mi751 ml752) ∧ (Q none (ab_G mi751 ml752)))))))) ∧ (¬ (r743 = 0) → (∃ (mi753 : Nat → Nat → Int32) (ml754 : Nat → Nat → Int64), call 166 [.ref 40, .int (x1 + 1)] (ab_G mi741 ml742) none (ab_G mi753 ml754) ∧ (Q none (ab_G mi753 (ab_ul (ab_ul ml754 40 10 ((ml754 40 10) ^^^ (-1))) 40 11 ((ml754 40 11) ^^^ (-1))))))))))))))))))) ∧ (¬ (r579 = 0) → (((r3 < 0) → (((x1 = 6) → (∃ (mi755 : Nat → Nat → Int32) (ml756 : Nat → Nat → Int64), call 153 [.ref 40, .int 5] (ab_G mi577 ml578) none (ab_G mi755 ml756) ∧ (((0 < (mi755 40 8)) → (Q none (ab_G mi755 ml756))) ∧ (¬ (0 < (mi755 40 8)) → (∃ (r759 : Int32) (mi757 : Nat → Nat → Int32) (ml758 : Nat → Nat → Int64), call 158 [.ref 40, .int 6] (ab_G mi755 ml756) (some (.int r759)) (ab_G mi757 ml758) ∧ (((r759 = 0) → (∃ (r762 : Int32) (mi760 : Nat → Nat → Int32) (ml761 : Nat → Nat → Int64), call 157 [.ref 40, .int 40] (ab_G mi757 ml758) (some (.int r762)) (ab_G mi760 ml761) ∧ (((r762 = 0) → (∃ (mi763 : Nat → Nat → Int32) (ml764 : Nat → Nat → Int64), call 168 [.ref 40] (ab_G mi760 ml761) none (ab_G mi763 ml764) ∧ (Q none (ab_G mi763 ml764)))) ∧ (¬ (r762 = 0) → (∃ (mi765 : Nat → Nat → Int32) (ml766 : Nat → Nat → Int64), call 163 [.ref 40, .int (x1 + 1)] (ab_G mi760 ml761) none (ab_G mi765 ml766) ∧ (∃ (mi767 : Nat → Nat → Int32) (ml768 : Nat → Nat → Int64), call 156 [.ref 40, .int 41] (ab_G mi765 ml766) none (ab_G mi767 ml768) ∧ (Q none (ab_G mi767 ml768)))))))) ∧ (¬ (r759 = 0) → (∃ (mi769 : Nat → Nat → Int32) (ml770 : Nat → Nat → Int64), call 166 [.ref 40, .int (x1 + 1)] (ab_G mi757 ml758) none (ab_G mi769 ml770) ∧ (Q none (ab_G mi769 (ab_ul (ab_ul ml770 40 10 ((ml770 40 10) ^^^ (-1))) 40 11 ((ml770 40 11) ^^^ (-1))))))))))))) ∧ (¬ (x1 = 6) → (((0 < (mi577 40 8)) → (Q none (ab_G mi577 ml578))) ∧ (¬ (0 < (mi577 40 8)) → (∃ (r773 : Int32) (mi771 : Nat → Nat → Int32) (ml772 : Nat → Nat → Int64), call 158 [.ref 40, .int 6] (ab_G mi577 ml578) (some (.int r773)) (ab_G mi771 ml772) ∧ (((r773 = 0) → (∃ (r776 : Int32) (mi774 : Nat → Nat → Int32) (ml775 : Nat → Nat → Int64), call 157 [.ref 40, .int 40] (ab_G mi771 ml772) (some (.int r776)) (ab_G mi774 ml775) ∧ (((r776 = 0) → (∃ (mi777 : Nat → Nat → Int32) (ml778 : Nat → Nat → Int64), call 168 [.ref 40] (ab_G mi774 ml775) none (ab_G mi777 ml778) ∧ (Q none (ab_G mi777 ml778)))) ∧ (¬ (r776 = 0) → (∃ (mi779 : Nat → Nat → Int32) (ml780 : Nat → Nat → Int64), call 163 [.ref 40, .int (x1 + 1)] (ab_G mi774 ml775) none (ab_G mi779 ml780) ∧ (∃ (mi781 : Nat → Nat → Int32) (ml782 : Nat → Nat → Int64), call 156 [.ref 40, .int 41] (ab_G mi779 ml780) none (ab_G mi781 ml782) ∧ (Q none (ab_G mi781 ml782)))))))) ∧ (¬ (r773 = 0) → (∃ (mi783 : Nat → Nat → Int32) (ml784 : Nat → Nat → Int64), call 166 [.ref 40, .int (x1 + 1)] (ab_G mi771 ml772) none (ab_G mi783 ml784) ∧ (Q none (ab_G mi783 (ab_ul (ab_ul ml784 40 10 ((ml784 40 10) ^^^ (-1))) 40 11 ((ml784 40 11) ^^^ (-1)))))))))))))) ∧ (¬ (r3 < 0) → (((x1 = 6) → (∃ (mi785 : Nat → Nat → Int32) (ml786 : Nat → Nat → Int64), call 153 [.ref 40, .int 5] (ab_G mi577 ml578) none (ab_G mi785 ml786) ∧ (((0 < (mi785 40 8)) → (Q none (ab_G mi785 ml786))) ∧ (¬ (0 < (mi785 40 8)) → (∃ (r789 : Int32) (mi787 : Nat → Nat → Int32) (ml788 : Nat → Nat → Int64), call 158 [.ref 40, .int 6] (ab_G mi785 ml786) (some (.int r789)) (ab_G mi787 ml788) ∧ (((r789 = 0) → (∃ (r792 : Int32) (mi790 : Nat → Nat → Int32) (ml791 : Nat → Nat → Int64), call 157 [.ref 40, .int 40] (ab_G mi787 ml788) (some (.int r792)) (ab_G mi790 ml791) ∧ (((r792 = 0) → (∃ (mi793 : Nat → Nat → Int32) (ml794 : Nat → Nat → Int64), call 168 [.ref 40] (ab_G mi790 ml791) none (ab_G mi793 ml794) ∧ (Q none (ab_G mi793 ml794)))) ∧ (¬ (r792 = 0) → (∃ (mi795 : Nat → Nat → Int32) (ml796 : Nat → Nat → Int64), call 163 [.ref 40, .int (x1 + 1)] (ab_G mi790 ml791) none (ab_G mi795 ml796) ∧ (∃ (mi797 : Nat → Nat → Int32) (ml798 : Nat → Nat → Int64), call 156 [.ref 40, .int 41] (ab_G mi795 ml796) none (ab_G mi797 ml798) ∧ (Q none (ab_G mi797 ml798)))))))) ∧ (¬ (r789 = 0) → (∃ (mi799 : Nat → Nat → Int32) (ml800 : Nat → Nat → Int64), call 166 [.ref 40, .int (x1 + 1)] (ab_G mi787 ml788) none (ab_G mi799 ml800) ∧ (Q none (ab_G mi799 (ab_ul (ab_ul ml800 40 10 ((ml800 40 10) ^^^ (-1))) 40 11 ((ml800 40 11) ^^^ (-1))))))))))))) ∧ (¬ (x1 = 6) → (((0 < (mi577 40 8)) → (Q none (ab_G mi577 ml578))) ∧ (¬ (0 < (mi577 40 8)) → (∃ (r803 : Int32) (mi801 : Nat → Nat → Int32) (ml802 : Nat → Nat → Int64), call 158 [.ref 40, .int 6] (ab_G mi577 ml578) (some (.int r803)) (ab_G mi801 ml802) ∧ (((r803 = 0) → (∃ (r806 : Int32) (mi804 : Nat → Nat → Int32) (ml805 : Nat → Nat → Int64), call 157 [.ref 40, .int 40] (ab_G mi801 ml802) (some (.int r806)) (ab_G mi804 ml805) ∧ (((r806 = 0) → (∃ (mi807 : Nat → Nat → Int32) (ml808 : Nat → Nat → Int64), call 168 [.ref 40] (ab_G mi804 ml805) none (ab_G mi807 ml808) ∧ (Q none (ab_G mi807 ml808)))) ∧ (¬ (r806 = 0) → (∃ (mi809 : Nat → Nat → Int32) (ml810 : Nat → Nat → Int64), call 163 [.ref 40, .int (x1 + 1)] (ab_G mi804 ml805) none (ab_G mi809 ml810) ∧ (∃ (mi811 : Nat → Nat → Int32) (ml812 : Nat → Nat → Int64), call 156 [.ref 40, .int 41] (ab_G mi809 ml810) none (ab_G mi811 ml812) ∧ (Q none (ab_G mi811 ml812)))))))) ∧ (¬ (r803 = 0) → (∃ (mi813 : Nat → Nat → Int32) (ml814 : Nat → Nat → Int64), call 166 [.ref 40, .int (x1 + 1)] (ab_G mi801 ml802) none (ab_G mi813 ml814) ∧ (Q none (ab_G mi813 (ab_ul (ab_ul ml814 40 10 ((ml814 40 10) ^^^ (-1))) 40 11 ((ml814 40 11) ^^^ (-1)))))))))))))))))))))))) :
    ab_W call ro 0 0 (ab_lk2 pl_X12_readPart) Q (0, [some (.ref 40), some (.int x1), none, none, none, none], [], 0, 0, ab_G mi ml) := by
  refine ab_wk 3 (f' := (if 0 < (mi 40 8) then 7 else 8, [some (.ref 40), some (.int x1), none, none, none, none], [], 0, 0, (ab_G mi ml))) rfl ⟨trivial, trivial, trivial, trivial⟩ ?_
  refine ab_wi (fun c => ?_) (fun c => ?_)
  · have h := h.1 c
    exact ab_wr 1 rfl trivial h
  · have h := h.2 c
    obtain ⟨r3, mi1, ml2, hc, h⟩ := h
    refine ab_wc 2 (c := 165) (as := [.ref 40]) (pc := 12) (ll := [some (.ref 40), some (.int x1), none, none, none, none]) (st := []) (c1 := 0) (s1 := 0) (g := (ab_G mi ml)) rfl ⟨trivial, trivial⟩ hc ?_
    obtain ⟨r6, mi4, ml5, hc, h⟩ := h
    refine ab_wc 4 (c := 155) (as := [.ref 40, .int 4]) (pc := 18) (ll := [some (.ref 40), some (.int x1), some (.int r3), none, none, none]) (st := []) (c1 := 0) (s1 := 0) (g := (ab_G mi1 ml2)) rfl ⟨trivial, trivial, trivial, trivial⟩ hc ?_
    refine ab_wk 1 (f' := (if r6 = 0 then 21 else 29, [some (.ref 40), some (.int x1), some (.int r3), none, none, none], [], 0, 0, (ab_G mi4 ml5))) rfl ⟨trivial, trivial⟩ ?_
    refine ab_wi (fun c => ?_) (fun c => ?_)
    · have h := h.1 c
      obtain ⟨r9, mi7, ml8, hc, h⟩ := h
      refine ab_wc 3 (c := 155) (as := [.ref 40, .int 5]) (pc := 26) (ll := [some (.ref 40), some (.int x1), some (.int r3), none, none, none]) (st := []) (c1 := 0) (s1 := 0) (g := (ab_G mi4 ml5)) rfl ⟨trivial, trivial, trivial⟩ hc ?_
      refine ab_wk 1 (f' := (if r9 = 0 then 33 else 29, [some (.ref 40), some (.int x1), some (.int r3), none, none, none], [], 0, 0, (ab_G mi7 ml8))) rfl ⟨trivial, trivial⟩ ?_
      refine ab_wi (fun c => ?_) (fun c => ?_)
      · have h := h.1 c
        obtain ⟨r12, mi10, ml11, hc, h⟩ := h
        refine ab_wc 5 (c := 155) (as := [.ref 40, .int 8]) (pc := 41) (ll := [some (.ref 40), some (.int x1), some (.int r3), some (.int 0), none, none]) (st := []) (c1 := 0) (s1 := 0) (g := (ab_G mi7 ml8)) rfl ⟨trivial, trivial, trivial, trivial, trivial⟩ hc ?_
        refine ab_wk 1 (f' := (if r12 = 0 then 44 else 53, [some (.ref 40), some (.int x1), some (.int r3), some (.int 0), none, none], [], 0, 0, (ab_G mi10 ml11))) rfl ⟨trivial, trivial⟩ ?_
        refine ab_wi (fun c => ?_) (fun c => ?_)
        · have h := h.1 c
          obtain ⟨r15, mi13, ml14, hc, h⟩ := h
          refine ab_wc 3 (c := 155) (as := [.ref 40, .int 9]) (pc := 50) (ll := [some (.ref 40), some (.int x1), some (.int r3), some (.int 0), none, none]) (st := []) (c1 := 0) (s1 := 0) (g := (ab_G mi10 ml11)) rfl ⟨trivial, trivial, trivial⟩ hc ?_
          refine ab_wk 1 (f' := (if r15 = 0 then 57 else 53, [some (.ref 40), some (.int x1), some (.int r3), some (.int 0), none, none], [], 0, 0, (ab_G mi13 ml14))) rfl ⟨trivial, trivial⟩ ?_
          refine ab_wi (fun c => ?_) (fun c => ?_)
          · have h := h.1 c
            refine ab_wk 4 (f' := (if r3 < 0 then 64 else 99, [some (.ref 40), some (.int x1), some (.int r3), some (.int 0), some (.int 0), none], [], 0, 0, (ab_G mi13 ml14))) rfl ⟨trivial, trivial, trivial, trivial, trivial⟩ ?_
            refine ab_wi (fun c => ?_) (fun c => ?_)
            · have h := h.1 c
              refine ab_wk 2 (f' := (if (0 : Int32) = 0 then 68 else 99, [some (.ref 40), some (.int x1), some (.int r3), some (.int 0), some (.int 0), none], [], 0, 0, (ab_G mi13 ml14))) rfl ⟨trivial, trivial, trivial⟩ ?_
              refine ab_wit (c := ((0 : Int32) = 0)) (by decide) ?_
              refine ab_wk 2 (f' := (if (0 : Int32) = 0 then 73 else 99, [some (.ref 40), some (.int x1), some (.int r3), some (.int 0), some (.int 0), none], [], 0, 0, (ab_G mi13 ml14))) rfl ⟨trivial, trivial, trivial⟩ ?_
              refine ab_wit (c := ((0 : Int32) = 0)) (by decide) ?_
              obtain ⟨r18, mi16, ml17, hc, h⟩ := h
              refine ab_wc 3 (c := 155) (as := [.ref 40, .int 6]) (pc := 79) (ll := [some (.ref 40), some (.int x1), some (.int r3), some (.int 0), some (.int 0), none]) (st := []) (c1 := 0) (s1 := 0) (g := (ab_G mi13 ml14)) rfl ⟨trivial, trivial, trivial⟩ hc ?_
              refine ab_wk 1 (f' := (if r18 = 0 then 82 else 99, [some (.ref 40), some (.int x1), some (.int r3), some (.int 0), some (.int 0), none], [], 0, 0, (ab_G mi16 ml17))) rfl ⟨trivial, trivial⟩ ?_
              refine ab_wi (fun c => ?_) (fun c => ?_)
              · have h := h.1 c
                obtain ⟨r21, mi19, ml20, hc, h⟩ := h
                refine ab_wc 3 (c := 154) (as := [.ref 40, .int 40]) (pc := 88) (ll := [some (.ref 40), some (.int x1), some (.int r3), some (.int 0), some (.int 0), none]) (st := []) (c1 := 0) (s1 := 0) (g := (ab_G mi16 ml17)) rfl ⟨trivial, trivial, trivial⟩ hc ?_
                refine ab_wk 1 (f' := (if r21 = 0 then 91 else 99, [some (.ref 40), some (.int x1), some (.int r3), some (.int 0), some (.int 0), none], [], 0, 0, (ab_G mi19 ml20))) rfl ⟨trivial, trivial⟩ ?_
                refine ab_wi (fun c => ?_) (fun c => ?_)
                · have h := h.1 c
                  obtain ⟨mi22, ml23, hc, h⟩ := h
                  refine ab_wc 3 (c := 153) (as := [.ref 40, .int 1]) (pc := 96) (ll := [some (.ref 40), some (.int x1), some (.int r3), some (.int 0), some (.int 0), none]) (st := []) (c1 := 0) (s1 := 0) (g := (ab_G mi19 ml20)) rfl ⟨trivial, trivial, trivial⟩ hc ?_
                  refine ab_wk 4 (f' := (if 0 < (mi22 40 8) then 117 else 118, [some (.ref 40), some (.int x1), some (.int r3), some (.int 0), some (.int 0), none], [], 0, 0, (ab_G mi22 ml23))) rfl ⟨trivial, trivial, trivial, trivial, trivial⟩ ?_
                  refine ab_wi (fun c => ?_) (fun c => ?_)
                  · have h := h.1 c
                    exact ab_wr 1 rfl trivial h
                  · have h := h.2 c
                    obtain ⟨r26, mi24, ml25, hc, h⟩ := h
                    refine ab_wc 3 (c := 158) (as := [.ref 40, .int 6]) (pc := 124) (ll := [some (.ref 40), some (.int x1), some (.int r3), some (.int 0), some (.int 0), none]) (st := []) (c1 := 0) (s1 := 0) (g := (ab_G mi22 ml23)) rfl ⟨trivial, trivial, trivial⟩ hc ?_
                    refine ab_wk 1 (f' := (if r26 = 0 then 161 else 127, [some (.ref 40), some (.int x1), some (.int r3), some (.int 0), some (.int 0), none], [], 0, 0, (ab_G mi24 ml25))) rfl ⟨trivial, trivial⟩ ?_
                    refine ab_wi (fun c => ?_) (fun c => ?_)
                    · have h := h.1 c
                      obtain ⟨r29, mi27, ml28, hc, h⟩ := h
                      refine ab_wc 3 (c := 157) (as := [.ref 40, .int 40]) (pc := 167) (ll := [some (.ref 40), some (.int x1), some (.int r3), some (.int 0), some (.int 0), none]) (st := []) (c1 := 0) (s1 := 0) (g := (ab_G mi24 ml25)) rfl ⟨trivial, trivial, trivial⟩ hc ?_
                      refine ab_wk 1 (f' := (if r29 = 0 then 186 else 170, [some (.ref 40), some (.int x1), some (.int r3), some (.int 0), some (.int 0), none], [], 0, 0, (ab_G mi27 ml28))) rfl ⟨trivial, trivial⟩ ?_
                      refine ab_wi (fun c => ?_) (fun c => ?_)
                      · have h := h.1 c
                        refine ab_wk 2 (f' := (if (0 : Int32) = 0 then 198 else 191, [some (.ref 40), some (.int x1), some (.int r3), some (.int 0), some (.int 0), none], [], 0, 0, (ab_G mi27 ml28))) rfl ⟨trivial, trivial, trivial⟩ ?_
                        refine ab_wit (c := ((0 : Int32) = 0)) (by decide) ?_
                        obtain ⟨r32, mi30, ml31, hc, h⟩ := h
                        refine ab_wc 3 (c := 155) (as := [.ref 40, .int 5]) (pc := 203) (ll := [some (.ref 40), some (.int x1), some (.int r3), some (.int 0), some (.int 0), none]) (st := []) (c1 := 0) (s1 := 0) (g := (ab_G mi27 ml28)) rfl ⟨trivial, trivial, trivial⟩ hc ?_
                        refine ab_wk 10 (f' := (if r3 < 0 then 220 else 224, [some (.ref 40), some (.int x1), some (.int r3), some (.int 0), some (.int 0), some (.int r32)], [.ref 40], 0, 0, (ab_G (ab_ui mi30 40 7 ((mi30 40 7) + 1)) ml31))) rfl ⟨trivial, trivial, trivial, trivial, trivial, trivial, trivial, trivial, trivial, trivial, trivial⟩ ?_
                        refine ab_wi (fun c => ?_) (fun c => ?_)
                        · have h := h.1 c
                          refine ab_wk 4 (f' := (if r3 < 0 then 231 else 244, [some (.ref 40), some (.int x1), some (.int r3), some (.int 0), some (.int 0), some (.int r32)], [.int 0, .ref 40], 0, 0, (ab_G (ab_ui mi30 40 7 ((mi30 40 7) + 1)) ml31))) rfl ⟨trivial, trivial, trivial, trivial, trivial⟩ ?_
                          refine ab_wi (fun c => ?_) (fun c => ?_)
                          · have h := h.1 c
                            refine ab_wk 2 (f' := (if r32 = 0 then 240 else 236, [some (.ref 40), some (.int x1), some (.int r3), some (.int 0), some (.int 0), some (.int r32)], [.int 0, .ref 40], 0, 0, (ab_G (ab_ui mi30 40 7 ((mi30 40 7) + 1)) ml31))) rfl ⟨trivial, trivial, trivial⟩ ?_
                            refine ab_wi (fun c => ?_) (fun c => ?_)
                            · have h := h.1 c
                              obtain ⟨mi33, ml34, hc, h⟩ := h
                              refine ab_wc 4 (c := 162) (as := [.ref 40, .int 0, .int 0, .int 0]) (pc := 249) (ll := [some (.ref 40), some (.int x1), some (.int r3), some (.int 0), some (.int 0), some (.int r32)]) (st := []) (c1 := 0) (s1 := 0) (g := (ab_G (ab_ui mi30 40 7 ((mi30 40 7) + 1)) ml31)) rfl ⟨trivial, trivial, trivial, trivial⟩ hc ?_
                              exact ab_wr 1 rfl trivial h
                            · have h := h.2 c
                              obtain ⟨mi35, ml36, hc, h⟩ := h
                              refine ab_wc 4 (c := 162) (as := [.ref 40, .int 0, .int 1, .int 0]) (pc := 249) (ll := [some (.ref 40), some (.int x1), some (.int r3), some (.int 0), some (.int 0), some (.int r32)]) (st := []) (c1 := 0) (s1 := 0) (g := (ab_G (ab_ui mi30 40 7 ((mi30 40 7) + 1)) ml31)) rfl ⟨trivial, trivial, trivial, trivial⟩ hc ?_
                              exact ab_wr 1 rfl trivial h
                          · have h := h.2 c
                            obtain ⟨mi37, ml38, hc, h⟩ := h
                            refine ab_wc 3 (c := 162) (as := [.ref 40, .int 0, .int 1, .int 0]) (pc := 249) (ll := [some (.ref 40), some (.int x1), some (.int r3), some (.int 0), some (.int 0), some (.int r32)]) (st := []) (c1 := 0) (s1 := 0) (g := (ab_G (ab_ui mi30 40 7 ((mi30 40 7) + 1)) ml31)) rfl ⟨trivial, trivial, trivial⟩ hc ?_
                            exact ab_wr 1 rfl trivial h
                        · have h := h.2 c
                          refine ab_wk 5 (f' := (if r3 < 0 then 231 else 244, [some (.ref 40), some (.int x1), some (.int r3), some (.int 0), some (.int 0), some (.int r32)], [.int ((1 : Int32) <<< (r3 &&& 31)), .ref 40], 0, 0, (ab_G (ab_ui mi30 40 7 ((mi30 40 7) + 1)) ml31))) rfl ⟨trivial, trivial, trivial, trivial, trivial, trivial⟩ ?_
                          refine ab_wi (fun c => ?_) (fun c => ?_)
                          · have h := h.1 c
                            refine ab_wk 2 (f' := (if r32 = 0 then 240 else 236, [some (.ref 40), some (.int x1), some (.int r3), some (.int 0), some (.int 0), some (.int r32)], [.int ((1 : Int32) <<< (r3 &&& 31)), .ref 40], 0, 0, (ab_G (ab_ui mi30 40 7 ((mi30 40 7) + 1)) ml31))) rfl ⟨trivial, trivial, trivial⟩ ?_
                            refine ab_wi (fun c => ?_) (fun c => ?_)
                            · have h := h.1 c
                              obtain ⟨mi39, ml40, hc, h⟩ := h
                              refine ab_wc 4 (c := 162) (as := [.ref 40, .int ((1 : Int32) <<< (r3 &&& 31)), .int 0, .int 0]) (pc := 249) (ll := [some (.ref 40), some (.int x1), some (.int r3), some (.int 0), some (.int 0), some (.int r32)]) (st := []) (c1 := 0) (s1 := 0) (g := (ab_G (ab_ui mi30 40 7 ((mi30 40 7) + 1)) ml31)) rfl ⟨trivial, trivial, trivial, trivial⟩ hc ?_
                              exact ab_wr 1 rfl trivial h
                            · have h := h.2 c
                              obtain ⟨mi41, ml42, hc, h⟩ := h
                              refine ab_wc 4 (c := 162) (as := [.ref 40, .int ((1 : Int32) <<< (r3 &&& 31)), .int 1, .int 0]) (pc := 249) (ll := [some (.ref 40), some (.int x1), some (.int r3), some (.int 0), some (.int 0), some (.int r32)]) (st := []) (c1 := 0) (s1 := 0) (g := (ab_G (ab_ui mi30 40 7 ((mi30 40 7) + 1)) ml31)) rfl ⟨trivial, trivial, trivial, trivial⟩ hc ?_
                              exact ab_wr 1 rfl trivial h
                          · have h := h.2 c
                            obtain ⟨mi43, ml44, hc, h⟩ := h
                            refine ab_wc 3 (c := 162) (as := [.ref 40, .int ((1 : Int32) <<< (r3 &&& 31)), .int 1, .int 0]) (pc := 249) (ll := [some (.ref 40), some (.int x1), some (.int r3), some (.int 0), some (.int 0), some (.int r32)]) (st := []) (c1 := 0) (s1 := 0) (g := (ab_G (ab_ui mi30 40 7 ((mi30 40 7) + 1)) ml31)) rfl ⟨trivial, trivial, trivial⟩ hc ?_
                            exact ab_wr 1 rfl trivial h
                      · have h := h.2 c
                        obtain ⟨mi45, ml46, hc, h⟩ := h
                        refine ab_wc 5 (c := 163) (as := [.ref 40, .int (x1 + 1)]) (pc := 177) (ll := [some (.ref 40), some (.int x1), some (.int r3), some (.int 0), some (.int 0), none]) (st := []) (c1 := 0) (s1 := 0) (g := (ab_G mi27 ml28)) rfl ⟨trivial, trivial, trivial, trivial, trivial⟩ hc ?_
                        obtain ⟨mi47, ml48, hc, h⟩ := h
                        refine ab_wc 3 (c := 156) (as := [.ref 40, .int 41]) (pc := 183) (ll := [some (.ref 40), some (.int x1), some (.int r3), some (.int 0), some (.int 0), none]) (st := []) (c1 := 0) (s1 := 0) (g := (ab_G mi45 ml46)) rfl ⟨trivial, trivial, trivial⟩ hc ?_
                        exact ab_wr 2 rfl ⟨trivial, trivial⟩ h
                    · have h := h.2 c
                      obtain ⟨mi49, ml50, hc, h⟩ := h
                      refine ab_wc 5 (c := 166) (as := [.ref 40, .int (x1 + 1)]) (pc := 134) (ll := [some (.ref 40), some (.int x1), some (.int r3), some (.int 0), some (.int 0), none]) (st := []) (c1 := 0) (s1 := 0) (g := (ab_G mi24 ml25)) rfl ⟨trivial, trivial, trivial, trivial, trivial⟩ hc ?_
                      exact ab_wr 14 rfl ⟨trivial, trivial, trivial, trivial, trivial, trivial, trivial, trivial, trivial, trivial, trivial, trivial, trivial, trivial⟩ h
                · have h := h.2 c
                  refine ab_wk 3 (f' := (if x1 = 6 then 105 else 110, [some (.ref 40), some (.int x1), some (.int r3), some (.int 0), some (.int 0), none], [], 0, 0, (ab_G mi19 ml20))) rfl ⟨trivial, trivial, trivial, trivial⟩ ?_
                  refine ab_wi (fun c => ?_) (fun c => ?_)
                  · have h := h.1 c
                    obtain ⟨mi51, ml52, hc, h⟩ := h
                    refine ab_wc 3 (c := 153) (as := [.ref 40, .int 5]) (pc := 110) (ll := [some (.ref 40), some (.int x1), some (.int r3), some (.int 0), some (.int 0), none]) (st := []) (c1 := 0) (s1 := 0) (g := (ab_G mi19 ml20)) rfl ⟨trivial, trivial, trivial⟩ hc ?_
                    refine ab_wk 3 (f' := (if 0 < (mi51 40 8) then 117 else 118, [some (.ref 40), some (.int x1), some (.int r3), some (.int 0), some (.int 0), none], [], 0, 0, (ab_G mi51 ml52))) rfl ⟨trivial, trivial, trivial, trivial⟩ ?_
                    refine ab_wi (fun c => ?_) (fun c => ?_)
                    · have h := h.1 c
                      exact ab_wr 1 rfl trivial h
                    · have h := h.2 c
                      obtain ⟨r55, mi53, ml54, hc, h⟩ := h
                      refine ab_wc 3 (c := 158) (as := [.ref 40, .int 6]) (pc := 124) (ll := [some (.ref 40), some (.int x1), some (.int r3), some (.int 0), some (.int 0), none]) (st := []) (c1 := 0) (s1 := 0) (g := (ab_G mi51 ml52)) rfl ⟨trivial, trivial, trivial⟩ hc ?_
                      refine ab_wk 1 (f' := (if r55 = 0 then 161 else 127, [some (.ref 40), some (.int x1), some (.int r3), some (.int 0), some (.int 0), none], [], 0, 0, (ab_G mi53 ml54))) rfl ⟨trivial, trivial⟩ ?_
                      refine ab_wi (fun c => ?_) (fun c => ?_)
                      · have h := h.1 c
                        obtain ⟨r58, mi56, ml57, hc, h⟩ := h
                        refine ab_wc 3 (c := 157) (as := [.ref 40, .int 40]) (pc := 167) (ll := [some (.ref 40), some (.int x1), some (.int r3), some (.int 0), some (.int 0), none]) (st := []) (c1 := 0) (s1 := 0) (g := (ab_G mi53 ml54)) rfl ⟨trivial, trivial, trivial⟩ hc ?_
                        refine ab_wk 1 (f' := (if r58 = 0 then 186 else 170, [some (.ref 40), some (.int x1), some (.int r3), some (.int 0), some (.int 0), none], [], 0, 0, (ab_G mi56 ml57))) rfl ⟨trivial, trivial⟩ ?_
                        refine ab_wi (fun c => ?_) (fun c => ?_)
                        · have h := h.1 c
                          refine ab_wk 2 (f' := (if (0 : Int32) = 0 then 198 else 191, [some (.ref 40), some (.int x1), some (.int r3), some (.int 0), some (.int 0), none], [], 0, 0, (ab_G mi56 ml57))) rfl ⟨trivial, trivial, trivial⟩ ?_
                          refine ab_wit (c := ((0 : Int32) = 0)) (by decide) ?_
                          obtain ⟨r61, mi59, ml60, hc, h⟩ := h
                          refine ab_wc 3 (c := 155) (as := [.ref 40, .int 5]) (pc := 203) (ll := [some (.ref 40), some (.int x1), some (.int r3), some (.int 0), some (.int 0), none]) (st := []) (c1 := 0) (s1 := 0) (g := (ab_G mi56 ml57)) rfl ⟨trivial, trivial, trivial⟩ hc ?_
                          refine ab_wk 10 (f' := (if r3 < 0 then 220 else 224, [some (.ref 40), some (.int x1), some (.int r3), some (.int 0), some (.int 0), some (.int r61)], [.ref 40], 0, 0, (ab_G (ab_ui mi59 40 7 ((mi59 40 7) + 1)) ml60))) rfl ⟨trivial, trivial, trivial, trivial, trivial, trivial, trivial, trivial, trivial, trivial, trivial⟩ ?_
                          refine ab_wi (fun c => ?_) (fun c => ?_)
                          · have h := h.1 c
                            refine ab_wk 4 (f' := (if r3 < 0 then 231 else 244, [some (.ref 40), some (.int x1), some (.int r3), some (.int 0), some (.int 0), some (.int r61)], [.int 0, .ref 40], 0, 0, (ab_G (ab_ui mi59 40 7 ((mi59 40 7) + 1)) ml60))) rfl ⟨trivial, trivial, trivial, trivial, trivial⟩ ?_
                            refine ab_wi (fun c => ?_) (fun c => ?_)
                            · have h := h.1 c
                              refine ab_wk 2 (f' := (if r61 = 0 then 240 else 236, [some (.ref 40), some (.int x1), some (.int r3), some (.int 0), some (.int 0), some (.int r61)], [.int 0, .ref 40], 0, 0, (ab_G (ab_ui mi59 40 7 ((mi59 40 7) + 1)) ml60))) rfl ⟨trivial, trivial, trivial⟩ ?_
                              refine ab_wi (fun c => ?_) (fun c => ?_)
                              · have h := h.1 c
                                obtain ⟨mi62, ml63, hc, h⟩ := h
                                refine ab_wc 4 (c := 162) (as := [.ref 40, .int 0, .int 0, .int 0]) (pc := 249) (ll := [some (.ref 40), some (.int x1), some (.int r3), some (.int 0), some (.int 0), some (.int r61)]) (st := []) (c1 := 0) (s1 := 0) (g := (ab_G (ab_ui mi59 40 7 ((mi59 40 7) + 1)) ml60)) rfl ⟨trivial, trivial, trivial, trivial⟩ hc ?_
                                exact ab_wr 1 rfl trivial h
                              · have h := h.2 c
                                obtain ⟨mi64, ml65, hc, h⟩ := h
                                refine ab_wc 4 (c := 162) (as := [.ref 40, .int 0, .int 1, .int 0]) (pc := 249) (ll := [some (.ref 40), some (.int x1), some (.int r3), some (.int 0), some (.int 0), some (.int r61)]) (st := []) (c1 := 0) (s1 := 0) (g := (ab_G (ab_ui mi59 40 7 ((mi59 40 7) + 1)) ml60)) rfl ⟨trivial, trivial, trivial, trivial⟩ hc ?_
                                exact ab_wr 1 rfl trivial h
                            · have h := h.2 c
                              obtain ⟨mi66, ml67, hc, h⟩ := h
                              refine ab_wc 3 (c := 162) (as := [.ref 40, .int 0, .int 1, .int 0]) (pc := 249) (ll := [some (.ref 40), some (.int x1), some (.int r3), some (.int 0), some (.int 0), some (.int r61)]) (st := []) (c1 := 0) (s1 := 0) (g := (ab_G (ab_ui mi59 40 7 ((mi59 40 7) + 1)) ml60)) rfl ⟨trivial, trivial, trivial⟩ hc ?_
                              exact ab_wr 1 rfl trivial h
                          · have h := h.2 c
                            refine ab_wk 5 (f' := (if r3 < 0 then 231 else 244, [some (.ref 40), some (.int x1), some (.int r3), some (.int 0), some (.int 0), some (.int r61)], [.int ((1 : Int32) <<< (r3 &&& 31)), .ref 40], 0, 0, (ab_G (ab_ui mi59 40 7 ((mi59 40 7) + 1)) ml60))) rfl ⟨trivial, trivial, trivial, trivial, trivial, trivial⟩ ?_
                            refine ab_wi (fun c => ?_) (fun c => ?_)
                            · have h := h.1 c
                              refine ab_wk 2 (f' := (if r61 = 0 then 240 else 236, [some (.ref 40), some (.int x1), some (.int r3), some (.int 0), some (.int 0), some (.int r61)], [.int ((1 : Int32) <<< (r3 &&& 31)), .ref 40], 0, 0, (ab_G (ab_ui mi59 40 7 ((mi59 40 7) + 1)) ml60))) rfl ⟨trivial, trivial, trivial⟩ ?_
                              refine ab_wi (fun c => ?_) (fun c => ?_)
                              · have h := h.1 c
                                obtain ⟨mi68, ml69, hc, h⟩ := h
                                refine ab_wc 4 (c := 162) (as := [.ref 40, .int ((1 : Int32) <<< (r3 &&& 31)), .int 0, .int 0]) (pc := 249) (ll := [some (.ref 40), some (.int x1), some (.int r3), some (.int 0), some (.int 0), some (.int r61)]) (st := []) (c1 := 0) (s1 := 0) (g := (ab_G (ab_ui mi59 40 7 ((mi59 40 7) + 1)) ml60)) rfl ⟨trivial, trivial, trivial, trivial⟩ hc ?_
                                exact ab_wr 1 rfl trivial h
                              · have h := h.2 c
                                obtain ⟨mi70, ml71, hc, h⟩ := h
                                refine ab_wc 4 (c := 162) (as := [.ref 40, .int ((1 : Int32) <<< (r3 &&& 31)), .int 1, .int 0]) (pc := 249) (ll := [some (.ref 40), some (.int x1), some (.int r3), some (.int 0), some (.int 0), some (.int r61)]) (st := []) (c1 := 0) (s1 := 0) (g := (ab_G (ab_ui mi59 40 7 ((mi59 40 7) + 1)) ml60)) rfl ⟨trivial, trivial, trivial, trivial⟩ hc ?_
                                exact ab_wr 1 rfl trivial h
                            · have h := h.2 c
                              obtain ⟨mi72, ml73, hc, h⟩ := h
                              refine ab_wc 3 (c := 162) (as := [.ref 40, .int ((1 : Int32) <<< (r3 &&& 31)), .int 1, .int 0]) (pc := 249) (ll := [some (.ref 40), some (.int x1), some (.int r3), some (.int 0), some (.int 0), some (.int r61)]) (st := []) (c1 := 0) (s1 := 0) (g := (ab_G (ab_ui mi59 40 7 ((mi59 40 7) + 1)) ml60)) rfl ⟨trivial, trivial, trivial⟩ hc ?_
                              exact ab_wr 1 rfl trivial h
                        · have h := h.2 c
                          obtain ⟨mi74, ml75, hc, h⟩ := h
                          refine ab_wc 5 (c := 163) (as := [.ref 40, .int (x1 + 1)]) (pc := 177) (ll := [some (.ref 40), some (.int x1), some (.int r3), some (.int 0), some (.int 0), none]) (st := []) (c1 := 0) (s1 := 0) (g := (ab_G mi56 ml57)) rfl ⟨trivial, trivial, trivial, trivial, trivial⟩ hc ?_
                          obtain ⟨mi76, ml77, hc, h⟩ := h
                          refine ab_wc 3 (c := 156) (as := [.ref 40, .int 41]) (pc := 183) (ll := [some (.ref 40), some (.int x1), some (.int r3), some (.int 0), some (.int 0), none]) (st := []) (c1 := 0) (s1 := 0) (g := (ab_G mi74 ml75)) rfl ⟨trivial, trivial, trivial⟩ hc ?_
                          exact ab_wr 2 rfl ⟨trivial, trivial⟩ h
                      · have h := h.2 c
                        obtain ⟨mi78, ml79, hc, h⟩ := h
                        refine ab_wc 5 (c := 166) (as := [.ref 40, .int (x1 + 1)]) (pc := 134) (ll := [some (.ref 40), some (.int x1), some (.int r3), some (.int 0), some (.int 0), none]) (st := []) (c1 := 0) (s1 := 0) (g := (ab_G mi53 ml54)) rfl ⟨trivial, trivial, trivial, trivial, trivial⟩ hc ?_
                        exact ab_wr 14 rfl ⟨trivial, trivial, trivial, trivial, trivial, trivial, trivial, trivial, trivial, trivial, trivial, trivial, trivial, trivial⟩ h
                  · have h := h.2 c
                    refine ab_wk 3 (f' := (if 0 < (mi19 40 8) then 117 else 118, [some (.ref 40), some (.int x1), some (.int r3), some (.int 0), some (.int 0), none], [], 0, 0, (ab_G mi19 ml20))) rfl ⟨trivial, trivial, trivial, trivial⟩ ?_
                    refine ab_wi (fun c => ?_) (fun c => ?_)
                    · have h := h.1 c
                      exact ab_wr 1 rfl trivial h
                    · have h := h.2 c
                      obtain ⟨r82, mi80, ml81, hc, h⟩ := h
                      refine ab_wc 3 (c := 158) (as := [.ref 40, .int 6]) (pc := 124) (ll := [some (.ref 40), some (.int x1), some (.int r3), some (.int 0), some (.int 0), none]) (st := []) (c1 := 0) (s1 := 0) (g := (ab_G mi19 ml20)) rfl ⟨trivial, trivial, trivial⟩ hc ?_
                      refine ab_wk 1 (f' := (if r82 = 0 then 161 else 127, [some (.ref 40), some (.int x1), some (.int r3), some (.int 0), some (.int 0), none], [], 0, 0, (ab_G mi80 ml81))) rfl ⟨trivial, trivial⟩ ?_
                      refine ab_wi (fun c => ?_) (fun c => ?_)
                      · have h := h.1 c
                        obtain ⟨r85, mi83, ml84, hc, h⟩ := h
                        refine ab_wc 3 (c := 157) (as := [.ref 40, .int 40]) (pc := 167) (ll := [some (.ref 40), some (.int x1), some (.int r3), some (.int 0), some (.int 0), none]) (st := []) (c1 := 0) (s1 := 0) (g := (ab_G mi80 ml81)) rfl ⟨trivial, trivial, trivial⟩ hc ?_
                        refine ab_wk 1 (f' := (if r85 = 0 then 186 else 170, [some (.ref 40), some (.int x1), some (.int r3), some (.int 0), some (.int 0), none], [], 0, 0, (ab_G mi83 ml84))) rfl ⟨trivial, trivial⟩ ?_
                        refine ab_wi (fun c => ?_) (fun c => ?_)
                        · have h := h.1 c
                          refine ab_wk 2 (f' := (if (0 : Int32) = 0 then 198 else 191, [some (.ref 40), some (.int x1), some (.int r3), some (.int 0), some (.int 0), none], [], 0, 0, (ab_G mi83 ml84))) rfl ⟨trivial, trivial, trivial⟩ ?_
                          refine ab_wit (c := ((0 : Int32) = 0)) (by decide) ?_
                          obtain ⟨r88, mi86, ml87, hc, h⟩ := h
                          refine ab_wc 3 (c := 155) (as := [.ref 40, .int 5]) (pc := 203) (ll := [some (.ref 40), some (.int x1), some (.int r3), some (.int 0), some (.int 0), none]) (st := []) (c1 := 0) (s1 := 0) (g := (ab_G mi83 ml84)) rfl ⟨trivial, trivial, trivial⟩ hc ?_
                          refine ab_wk 10 (f' := (if r3 < 0 then 220 else 224, [some (.ref 40), some (.int x1), some (.int r3), some (.int 0), some (.int 0), some (.int r88)], [.ref 40], 0, 0, (ab_G (ab_ui mi86 40 7 ((mi86 40 7) + 1)) ml87))) rfl ⟨trivial, trivial, trivial, trivial, trivial, trivial, trivial, trivial, trivial, trivial, trivial⟩ ?_
                          refine ab_wi (fun c => ?_) (fun c => ?_)
                          · have h := h.1 c
                            refine ab_wk 4 (f' := (if r3 < 0 then 231 else 244, [some (.ref 40), some (.int x1), some (.int r3), some (.int 0), some (.int 0), some (.int r88)], [.int 0, .ref 40], 0, 0, (ab_G (ab_ui mi86 40 7 ((mi86 40 7) + 1)) ml87))) rfl ⟨trivial, trivial, trivial, trivial, trivial⟩ ?_
                            refine ab_wi (fun c => ?_) (fun c => ?_)
                            · have h := h.1 c
                              refine ab_wk 2 (f' := (if r88 = 0 then 240 else 236, [some (.ref 40), some (.int x1), some (.int r3), some (.int 0), some (.int 0), some (.int r88)], [.int 0, .ref 40], 0, 0, (ab_G (ab_ui mi86 40 7 ((mi86 40 7) + 1)) ml87))) rfl ⟨trivial, trivial, trivial⟩ ?_
                              refine ab_wi (fun c => ?_) (fun c => ?_)
                              · have h := h.1 c
                                obtain ⟨mi89, ml90, hc, h⟩ := h
                                refine ab_wc 4 (c := 162) (as := [.ref 40, .int 0, .int 0, .int 0]) (pc := 249) (ll := [some (.ref 40), some (.int x1), some (.int r3), some (.int 0), some (.int 0), some (.int r88)]) (st := []) (c1 := 0) (s1 := 0) (g := (ab_G (ab_ui mi86 40 7 ((mi86 40 7) + 1)) ml87)) rfl ⟨trivial, trivial, trivial, trivial⟩ hc ?_
                                exact ab_wr 1 rfl trivial h
                              · have h := h.2 c
                                obtain ⟨mi91, ml92, hc, h⟩ := h
                                refine ab_wc 4 (c := 162) (as := [.ref 40, .int 0, .int 1, .int 0]) (pc := 249) (ll := [some (.ref 40), some (.int x1), some (.int r3), some (.int 0), some (.int 0), some (.int r88)]) (st := []) (c1 := 0) (s1 := 0) (g := (ab_G (ab_ui mi86 40 7 ((mi86 40 7) + 1)) ml87)) rfl ⟨trivial, trivial, trivial, trivial⟩ hc ?_
                                exact ab_wr 1 rfl trivial h
                            · have h := h.2 c
                              obtain ⟨mi93, ml94, hc, h⟩ := h
                              refine ab_wc 3 (c := 162) (as := [.ref 40, .int 0, .int 1, .int 0]) (pc := 249) (ll := [some (.ref 40), some (.int x1), some (.int r3), some (.int 0), some (.int 0), some (.int r88)]) (st := []) (c1 := 0) (s1 := 0) (g := (ab_G (ab_ui mi86 40 7 ((mi86 40 7) + 1)) ml87)) rfl ⟨trivial, trivial, trivial⟩ hc ?_
                              exact ab_wr 1 rfl trivial h
                          · have h := h.2 c
                            refine ab_wk 5 (f' := (if r3 < 0 then 231 else 244, [some (.ref 40), some (.int x1), some (.int r3), some (.int 0), some (.int 0), some (.int r88)], [.int ((1 : Int32) <<< (r3 &&& 31)), .ref 40], 0, 0, (ab_G (ab_ui mi86 40 7 ((mi86 40 7) + 1)) ml87))) rfl ⟨trivial, trivial, trivial, trivial, trivial, trivial⟩ ?_
                            refine ab_wi (fun c => ?_) (fun c => ?_)
                            · have h := h.1 c
                              refine ab_wk 2 (f' := (if r88 = 0 then 240 else 236, [some (.ref 40), some (.int x1), some (.int r3), some (.int 0), some (.int 0), some (.int r88)], [.int ((1 : Int32) <<< (r3 &&& 31)), .ref 40], 0, 0, (ab_G (ab_ui mi86 40 7 ((mi86 40 7) + 1)) ml87))) rfl ⟨trivial, trivial, trivial⟩ ?_
                              refine ab_wi (fun c => ?_) (fun c => ?_)
                              · have h := h.1 c
                                obtain ⟨mi95, ml96, hc, h⟩ := h
                                refine ab_wc 4 (c := 162) (as := [.ref 40, .int ((1 : Int32) <<< (r3 &&& 31)), .int 0, .int 0]) (pc := 249) (ll := [some (.ref 40), some (.int x1), some (.int r3), some (.int 0), some (.int 0), some (.int r88)]) (st := []) (c1 := 0) (s1 := 0) (g := (ab_G (ab_ui mi86 40 7 ((mi86 40 7) + 1)) ml87)) rfl ⟨trivial, trivial, trivial, trivial⟩ hc ?_
                                exact ab_wr 1 rfl trivial h
                              · have h := h.2 c
                                obtain ⟨mi97, ml98, hc, h⟩ := h
                                refine ab_wc 4 (c := 162) (as := [.ref 40, .int ((1 : Int32) <<< (r3 &&& 31)), .int 1, .int 0]) (pc := 249) (ll := [some (.ref 40), some (.int x1), some (.int r3), some (.int 0), some (.int 0), some (.int r88)]) (st := []) (c1 := 0) (s1 := 0) (g := (ab_G (ab_ui mi86 40 7 ((mi86 40 7) + 1)) ml87)) rfl ⟨trivial, trivial, trivial, trivial⟩ hc ?_
                                exact ab_wr 1 rfl trivial h
                            · have h := h.2 c
                              obtain ⟨mi99, ml100, hc, h⟩ := h
                              refine ab_wc 3 (c := 162) (as := [.ref 40, .int ((1 : Int32) <<< (r3 &&& 31)), .int 1, .int 0]) (pc := 249) (ll := [some (.ref 40), some (.int x1), some (.int r3), some (.int 0), some (.int 0), some (.int r88)]) (st := []) (c1 := 0) (s1 := 0) (g := (ab_G (ab_ui mi86 40 7 ((mi86 40 7) + 1)) ml87)) rfl ⟨trivial, trivial, trivial⟩ hc ?_
                              exact ab_wr 1 rfl trivial h
                        · have h := h.2 c
                          obtain ⟨mi101, ml102, hc, h⟩ := h
                          refine ab_wc 5 (c := 163) (as := [.ref 40, .int (x1 + 1)]) (pc := 177) (ll := [some (.ref 40), some (.int x1), some (.int r3), some (.int 0), some (.int 0), none]) (st := []) (c1 := 0) (s1 := 0) (g := (ab_G mi83 ml84)) rfl ⟨trivial, trivial, trivial, trivial, trivial⟩ hc ?_
                          obtain ⟨mi103, ml104, hc, h⟩ := h
                          refine ab_wc 3 (c := 156) (as := [.ref 40, .int 41]) (pc := 183) (ll := [some (.ref 40), some (.int x1), some (.int r3), some (.int 0), some (.int 0), none]) (st := []) (c1 := 0) (s1 := 0) (g := (ab_G mi101 ml102)) rfl ⟨trivial, trivial, trivial⟩ hc ?_
                          exact ab_wr 2 rfl ⟨trivial, trivial⟩ h
                      · have h := h.2 c
                        obtain ⟨mi105, ml106, hc, h⟩ := h
                        refine ab_wc 5 (c := 166) (as := [.ref 40, .int (x1 + 1)]) (pc := 134) (ll := [some (.ref 40), some (.int x1), some (.int r3), some (.int 0), some (.int 0), none]) (st := []) (c1 := 0) (s1 := 0) (g := (ab_G mi80 ml81)) rfl ⟨trivial, trivial, trivial, trivial, trivial⟩ hc ?_
                        exact ab_wr 14 rfl ⟨trivial, trivial, trivial, trivial, trivial, trivial, trivial, trivial, trivial, trivial, trivial, trivial, trivial, trivial⟩ h
              · have h := h.2 c
                refine ab_wk 3 (f' := (if x1 = 6 then 105 else 110, [some (.ref 40), some (.int x1), some (.int r3), some (.int 0), some (.int 0), none], [], 0, 0, (ab_G mi16 ml17))) rfl ⟨trivial, trivial, trivial, trivial⟩ ?_
                refine ab_wi (fun c => ?_) (fun c => ?_)
                · have h := h.1 c
                  obtain ⟨mi107, ml108, hc, h⟩ := h
                  refine ab_wc 3 (c := 153) (as := [.ref 40, .int 5]) (pc := 110) (ll := [some (.ref 40), some (.int x1), some (.int r3), some (.int 0), some (.int 0), none]) (st := []) (c1 := 0) (s1 := 0) (g := (ab_G mi16 ml17)) rfl ⟨trivial, trivial, trivial⟩ hc ?_
                  refine ab_wk 3 (f' := (if 0 < (mi107 40 8) then 117 else 118, [some (.ref 40), some (.int x1), some (.int r3), some (.int 0), some (.int 0), none], [], 0, 0, (ab_G mi107 ml108))) rfl ⟨trivial, trivial, trivial, trivial⟩ ?_
                  refine ab_wi (fun c => ?_) (fun c => ?_)
                  · have h := h.1 c
                    exact ab_wr 1 rfl trivial h
                  · have h := h.2 c
                    obtain ⟨r111, mi109, ml110, hc, h⟩ := h
                    refine ab_wc 3 (c := 158) (as := [.ref 40, .int 6]) (pc := 124) (ll := [some (.ref 40), some (.int x1), some (.int r3), some (.int 0), some (.int 0), none]) (st := []) (c1 := 0) (s1 := 0) (g := (ab_G mi107 ml108)) rfl ⟨trivial, trivial, trivial⟩ hc ?_
                    refine ab_wk 1 (f' := (if r111 = 0 then 161 else 127, [some (.ref 40), some (.int x1), some (.int r3), some (.int 0), some (.int 0), none], [], 0, 0, (ab_G mi109 ml110))) rfl ⟨trivial, trivial⟩ ?_
                    refine ab_wi (fun c => ?_) (fun c => ?_)
                    · have h := h.1 c
                      obtain ⟨r114, mi112, ml113, hc, h⟩ := h
                      refine ab_wc 3 (c := 157) (as := [.ref 40, .int 40]) (pc := 167) (ll := [some (.ref 40), some (.int x1), some (.int r3), some (.int 0), some (.int 0), none]) (st := []) (c1 := 0) (s1 := 0) (g := (ab_G mi109 ml110)) rfl ⟨trivial, trivial, trivial⟩ hc ?_
                      refine ab_wk 1 (f' := (if r114 = 0 then 186 else 170, [some (.ref 40), some (.int x1), some (.int r3), some (.int 0), some (.int 0), none], [], 0, 0, (ab_G mi112 ml113))) rfl ⟨trivial, trivial⟩ ?_
                      refine ab_wi (fun c => ?_) (fun c => ?_)
                      · have h := h.1 c
                        refine ab_wk 2 (f' := (if (0 : Int32) = 0 then 198 else 191, [some (.ref 40), some (.int x1), some (.int r3), some (.int 0), some (.int 0), none], [], 0, 0, (ab_G mi112 ml113))) rfl ⟨trivial, trivial, trivial⟩ ?_
                        refine ab_wit (c := ((0 : Int32) = 0)) (by decide) ?_
                        obtain ⟨r117, mi115, ml116, hc, h⟩ := h
                        refine ab_wc 3 (c := 155) (as := [.ref 40, .int 5]) (pc := 203) (ll := [some (.ref 40), some (.int x1), some (.int r3), some (.int 0), some (.int 0), none]) (st := []) (c1 := 0) (s1 := 0) (g := (ab_G mi112 ml113)) rfl ⟨trivial, trivial, trivial⟩ hc ?_
                        refine ab_wk 10 (f' := (if r3 < 0 then 220 else 224, [some (.ref 40), some (.int x1), some (.int r3), some (.int 0), some (.int 0), some (.int r117)], [.ref 40], 0, 0, (ab_G (ab_ui mi115 40 7 ((mi115 40 7) + 1)) ml116))) rfl ⟨trivial, trivial, trivial, trivial, trivial, trivial, trivial, trivial, trivial, trivial, trivial⟩ ?_
                        refine ab_wi (fun c => ?_) (fun c => ?_)
                        · have h := h.1 c
                          refine ab_wk 4 (f' := (if r3 < 0 then 231 else 244, [some (.ref 40), some (.int x1), some (.int r3), some (.int 0), some (.int 0), some (.int r117)], [.int 0, .ref 40], 0, 0, (ab_G (ab_ui mi115 40 7 ((mi115 40 7) + 1)) ml116))) rfl ⟨trivial, trivial, trivial, trivial, trivial⟩ ?_
                          refine ab_wi (fun c => ?_) (fun c => ?_)
                          · have h := h.1 c
                            refine ab_wk 2 (f' := (if r117 = 0 then 240 else 236, [some (.ref 40), some (.int x1), some (.int r3), some (.int 0), some (.int 0), some (.int r117)], [.int 0, .ref 40], 0, 0, (ab_G (ab_ui mi115 40 7 ((mi115 40 7) + 1)) ml116))) rfl ⟨trivial, trivial, trivial⟩ ?_
                            refine ab_wi (fun c => ?_) (fun c => ?_)
                            · have h := h.1 c
                              obtain ⟨mi118, ml119, hc, h⟩ := h
                              refine ab_wc 4 (c := 162) (as := [.ref 40, .int 0, .int 0, .int 0]) (pc := 249) (ll := [some (.ref 40), some (.int x1), some (.int r3), some (.int 0), some (.int 0), some (.int r117)]) (st := []) (c1 := 0) (s1 := 0) (g := (ab_G (ab_ui mi115 40 7 ((mi115 40 7) + 1)) ml116)) rfl ⟨trivial, trivial, trivial, trivial⟩ hc ?_
                              exact ab_wr 1 rfl trivial h
                            · have h := h.2 c
                              obtain ⟨mi120, ml121, hc, h⟩ := h
                              refine ab_wc 4 (c := 162) (as := [.ref 40, .int 0, .int 1, .int 0]) (pc := 249) (ll := [some (.ref 40), some (.int x1), some (.int r3), some (.int 0), some (.int 0), some (.int r117)]) (st := []) (c1 := 0) (s1 := 0) (g := (ab_G (ab_ui mi115 40 7 ((mi115 40 7) + 1)) ml116)) rfl ⟨trivial, trivial, trivial, trivial⟩ hc ?_
                              exact ab_wr 1 rfl trivial h
                          · have h := h.2 c
                            obtain ⟨mi122, ml123, hc, h⟩ := h
                            refine ab_wc 3 (c := 162) (as := [.ref 40, .int 0, .int 1, .int 0]) (pc := 249) (ll := [some (.ref 40), some (.int x1), some (.int r3), some (.int 0), some (.int 0), some (.int r117)]) (st := []) (c1 := 0) (s1 := 0) (g := (ab_G (ab_ui mi115 40 7 ((mi115 40 7) + 1)) ml116)) rfl ⟨trivial, trivial, trivial⟩ hc ?_
                            exact ab_wr 1 rfl trivial h
                        · have h := h.2 c
                          refine ab_wk 5 (f' := (if r3 < 0 then 231 else 244, [some (.ref 40), some (.int x1), some (.int r3), some (.int 0), some (.int 0), some (.int r117)], [.int ((1 : Int32) <<< (r3 &&& 31)), .ref 40], 0, 0, (ab_G (ab_ui mi115 40 7 ((mi115 40 7) + 1)) ml116))) rfl ⟨trivial, trivial, trivial, trivial, trivial, trivial⟩ ?_
                          refine ab_wi (fun c => ?_) (fun c => ?_)
                          · have h := h.1 c
                            refine ab_wk 2 (f' := (if r117 = 0 then 240 else 236, [some (.ref 40), some (.int x1), some (.int r3), some (.int 0), some (.int 0), some (.int r117)], [.int ((1 : Int32) <<< (r3 &&& 31)), .ref 40], 0, 0, (ab_G (ab_ui mi115 40 7 ((mi115 40 7) + 1)) ml116))) rfl ⟨trivial, trivial, trivial⟩ ?_
                            refine ab_wi (fun c => ?_) (fun c => ?_)
                            · have h := h.1 c
                              obtain ⟨mi124, ml125, hc, h⟩ := h
                              refine ab_wc 4 (c := 162) (as := [.ref 40, .int ((1 : Int32) <<< (r3 &&& 31)), .int 0, .int 0]) (pc := 249) (ll := [some (.ref 40), some (.int x1), some (.int r3), some (.int 0), some (.int 0), some (.int r117)]) (st := []) (c1 := 0) (s1 := 0) (g := (ab_G (ab_ui mi115 40 7 ((mi115 40 7) + 1)) ml116)) rfl ⟨trivial, trivial, trivial, trivial⟩ hc ?_
                              exact ab_wr 1 rfl trivial h
                            · have h := h.2 c
                              obtain ⟨mi126, ml127, hc, h⟩ := h
                              refine ab_wc 4 (c := 162) (as := [.ref 40, .int ((1 : Int32) <<< (r3 &&& 31)), .int 1, .int 0]) (pc := 249) (ll := [some (.ref 40), some (.int x1), some (.int r3), some (.int 0), some (.int 0), some (.int r117)]) (st := []) (c1 := 0) (s1 := 0) (g := (ab_G (ab_ui mi115 40 7 ((mi115 40 7) + 1)) ml116)) rfl ⟨trivial, trivial, trivial, trivial⟩ hc ?_
                              exact ab_wr 1 rfl trivial h
                          · have h := h.2 c
                            obtain ⟨mi128, ml129, hc, h⟩ := h
                            refine ab_wc 3 (c := 162) (as := [.ref 40, .int ((1 : Int32) <<< (r3 &&& 31)), .int 1, .int 0]) (pc := 249) (ll := [some (.ref 40), some (.int x1), some (.int r3), some (.int 0), some (.int 0), some (.int r117)]) (st := []) (c1 := 0) (s1 := 0) (g := (ab_G (ab_ui mi115 40 7 ((mi115 40 7) + 1)) ml116)) rfl ⟨trivial, trivial, trivial⟩ hc ?_
                            exact ab_wr 1 rfl trivial h
                      · have h := h.2 c
                        obtain ⟨mi130, ml131, hc, h⟩ := h
                        refine ab_wc 5 (c := 163) (as := [.ref 40, .int (x1 + 1)]) (pc := 177) (ll := [some (.ref 40), some (.int x1), some (.int r3), some (.int 0), some (.int 0), none]) (st := []) (c1 := 0) (s1 := 0) (g := (ab_G mi112 ml113)) rfl ⟨trivial, trivial, trivial, trivial, trivial⟩ hc ?_
                        obtain ⟨mi132, ml133, hc, h⟩ := h
                        refine ab_wc 3 (c := 156) (as := [.ref 40, .int 41]) (pc := 183) (ll := [some (.ref 40), some (.int x1), some (.int r3), some (.int 0), some (.int 0), none]) (st := []) (c1 := 0) (s1 := 0) (g := (ab_G mi130 ml131)) rfl ⟨trivial, trivial, trivial⟩ hc ?_
                        exact ab_wr 2 rfl ⟨trivial, trivial⟩ h
                    · have h := h.2 c
                      obtain ⟨mi134, ml135, hc, h⟩ := h
                      refine ab_wc 5 (c := 166) (as := [.ref 40, .int (x1 + 1)]) (pc := 134) (ll := [some (.ref 40), some (.int x1), some (.int r3), some (.int 0), some (.int 0), none]) (st := []) (c1 := 0) (s1 := 0) (g := (ab_G mi109 ml110)) rfl ⟨trivial, trivial, trivial, trivial, trivial⟩ hc ?_
                      exact ab_wr 14 rfl ⟨trivial, trivial, trivial, trivial, trivial, trivial, trivial, trivial, trivial, trivial, trivial, trivial, trivial, trivial⟩ h
                · have h := h.2 c
                  refine ab_wk 3 (f' := (if 0 < (mi16 40 8) then 117 else 118, [some (.ref 40), some (.int x1), some (.int r3), some (.int 0), some (.int 0), none], [], 0, 0, (ab_G mi16 ml17))) rfl ⟨trivial, trivial, trivial, trivial⟩ ?_
                  refine ab_wi (fun c => ?_) (fun c => ?_)
                  · have h := h.1 c
                    exact ab_wr 1 rfl trivial h
                  · have h := h.2 c
                    obtain ⟨r138, mi136, ml137, hc, h⟩ := h
                    refine ab_wc 3 (c := 158) (as := [.ref 40, .int 6]) (pc := 124) (ll := [some (.ref 40), some (.int x1), some (.int r3), some (.int 0), some (.int 0), none]) (st := []) (c1 := 0) (s1 := 0) (g := (ab_G mi16 ml17)) rfl ⟨trivial, trivial, trivial⟩ hc ?_
                    refine ab_wk 1 (f' := (if r138 = 0 then 161 else 127, [some (.ref 40), some (.int x1), some (.int r3), some (.int 0), some (.int 0), none], [], 0, 0, (ab_G mi136 ml137))) rfl ⟨trivial, trivial⟩ ?_
                    refine ab_wi (fun c => ?_) (fun c => ?_)
                    · have h := h.1 c
                      obtain ⟨r141, mi139, ml140, hc, h⟩ := h
                      refine ab_wc 3 (c := 157) (as := [.ref 40, .int 40]) (pc := 167) (ll := [some (.ref 40), some (.int x1), some (.int r3), some (.int 0), some (.int 0), none]) (st := []) (c1 := 0) (s1 := 0) (g := (ab_G mi136 ml137)) rfl ⟨trivial, trivial, trivial⟩ hc ?_
                      refine ab_wk 1 (f' := (if r141 = 0 then 186 else 170, [some (.ref 40), some (.int x1), some (.int r3), some (.int 0), some (.int 0), none], [], 0, 0, (ab_G mi139 ml140))) rfl ⟨trivial, trivial⟩ ?_
                      refine ab_wi (fun c => ?_) (fun c => ?_)
                      · have h := h.1 c
                        refine ab_wk 2 (f' := (if (0 : Int32) = 0 then 198 else 191, [some (.ref 40), some (.int x1), some (.int r3), some (.int 0), some (.int 0), none], [], 0, 0, (ab_G mi139 ml140))) rfl ⟨trivial, trivial, trivial⟩ ?_
                        refine ab_wit (c := ((0 : Int32) = 0)) (by decide) ?_
                        obtain ⟨r144, mi142, ml143, hc, h⟩ := h
                        refine ab_wc 3 (c := 155) (as := [.ref 40, .int 5]) (pc := 203) (ll := [some (.ref 40), some (.int x1), some (.int r3), some (.int 0), some (.int 0), none]) (st := []) (c1 := 0) (s1 := 0) (g := (ab_G mi139 ml140)) rfl ⟨trivial, trivial, trivial⟩ hc ?_
                        refine ab_wk 10 (f' := (if r3 < 0 then 220 else 224, [some (.ref 40), some (.int x1), some (.int r3), some (.int 0), some (.int 0), some (.int r144)], [.ref 40], 0, 0, (ab_G (ab_ui mi142 40 7 ((mi142 40 7) + 1)) ml143))) rfl ⟨trivial, trivial, trivial, trivial, trivial, trivial, trivial, trivial, trivial, trivial, trivial⟩ ?_
                        refine ab_wi (fun c => ?_) (fun c => ?_)
                        · have h := h.1 c
                          refine ab_wk 4 (f' := (if r3 < 0 then 231 else 244, [some (.ref 40), some (.int x1), some (.int r3), some (.int 0), some (.int 0), some (.int r144)], [.int 0, .ref 40], 0, 0, (ab_G (ab_ui mi142 40 7 ((mi142 40 7) + 1)) ml143))) rfl ⟨trivial, trivial, trivial, trivial, trivial⟩ ?_
                          refine ab_wi (fun c => ?_) (fun c => ?_)
                          · have h := h.1 c
                            refine ab_wk 2 (f' := (if r144 = 0 then 240 else 236, [some (.ref 40), some (.int x1), some (.int r3), some (.int 0), some (.int 0), some (.int r144)], [.int 0, .ref 40], 0, 0, (ab_G (ab_ui mi142 40 7 ((mi142 40 7) + 1)) ml143))) rfl ⟨trivial, trivial, trivial⟩ ?_
                            refine ab_wi (fun c => ?_) (fun c => ?_)
                            · have h := h.1 c
                              obtain ⟨mi145, ml146, hc, h⟩ := h
                              refine ab_wc 4 (c := 162) (as := [.ref 40, .int 0, .int 0, .int 0]) (pc := 249) (ll := [some (.ref 40), some (.int x1), some (.int r3), some (.int 0), some (.int 0), some (.int r144)]) (st := []) (c1 := 0) (s1 := 0) (g := (ab_G (ab_ui mi142 40 7 ((mi142 40 7) + 1)) ml143)) rfl ⟨trivial, trivial, trivial, trivial⟩ hc ?_
                              exact ab_wr 1 rfl trivial h
                            · have h := h.2 c
                              obtain ⟨mi147, ml148, hc, h⟩ := h
                              refine ab_wc 4 (c := 162) (as := [.ref 40, .int 0, .int 1, .int 0]) (pc := 249) (ll := [some (.ref 40), some (.int x1), some (.int r3), some (.int 0), some (.int 0), some (.int r144)]) (st := []) (c1 := 0) (s1 := 0) (g := (ab_G (ab_ui mi142 40 7 ((mi142 40 7) + 1)) ml143)) rfl ⟨trivial, trivial, trivial, trivial⟩ hc ?_
                              exact ab_wr 1 rfl trivial h
                          · have h := h.2 c
                            obtain ⟨mi149, ml150, hc, h⟩ := h
                            refine ab_wc 3 (c := 162) (as := [.ref 40, .int 0, .int 1, .int 0]) (pc := 249) (ll := [some (.ref 40), some (.int x1), some (.int r3), some (.int 0), some (.int 0), some (.int r144)]) (st := []) (c1 := 0) (s1 := 0) (g := (ab_G (ab_ui mi142 40 7 ((mi142 40 7) + 1)) ml143)) rfl ⟨trivial, trivial, trivial⟩ hc ?_
                            exact ab_wr 1 rfl trivial h
                        · have h := h.2 c
                          refine ab_wk 5 (f' := (if r3 < 0 then 231 else 244, [some (.ref 40), some (.int x1), some (.int r3), some (.int 0), some (.int 0), some (.int r144)], [.int ((1 : Int32) <<< (r3 &&& 31)), .ref 40], 0, 0, (ab_G (ab_ui mi142 40 7 ((mi142 40 7) + 1)) ml143))) rfl ⟨trivial, trivial, trivial, trivial, trivial, trivial⟩ ?_
                          refine ab_wi (fun c => ?_) (fun c => ?_)
                          · have h := h.1 c
                            refine ab_wk 2 (f' := (if r144 = 0 then 240 else 236, [some (.ref 40), some (.int x1), some (.int r3), some (.int 0), some (.int 0), some (.int r144)], [.int ((1 : Int32) <<< (r3 &&& 31)), .ref 40], 0, 0, (ab_G (ab_ui mi142 40 7 ((mi142 40 7) + 1)) ml143))) rfl ⟨trivial, trivial, trivial⟩ ?_
                            refine ab_wi (fun c => ?_) (fun c => ?_)
                            · have h := h.1 c
                              obtain ⟨mi151, ml152, hc, h⟩ := h
                              refine ab_wc 4 (c := 162) (as := [.ref 40, .int ((1 : Int32) <<< (r3 &&& 31)), .int 0, .int 0]) (pc := 249) (ll := [some (.ref 40), some (.int x1), some (.int r3), some (.int 0), some (.int 0), some (.int r144)]) (st := []) (c1 := 0) (s1 := 0) (g := (ab_G (ab_ui mi142 40 7 ((mi142 40 7) + 1)) ml143)) rfl ⟨trivial, trivial, trivial, trivial⟩ hc ?_
                              exact ab_wr 1 rfl trivial h
                            · have h := h.2 c
                              obtain ⟨mi153, ml154, hc, h⟩ := h
                              refine ab_wc 4 (c := 162) (as := [.ref 40, .int ((1 : Int32) <<< (r3 &&& 31)), .int 1, .int 0]) (pc := 249) (ll := [some (.ref 40), some (.int x1), some (.int r3), some (.int 0), some (.int 0), some (.int r144)]) (st := []) (c1 := 0) (s1 := 0) (g := (ab_G (ab_ui mi142 40 7 ((mi142 40 7) + 1)) ml143)) rfl ⟨trivial, trivial, trivial, trivial⟩ hc ?_
                              exact ab_wr 1 rfl trivial h
                          · have h := h.2 c
                            obtain ⟨mi155, ml156, hc, h⟩ := h
                            refine ab_wc 3 (c := 162) (as := [.ref 40, .int ((1 : Int32) <<< (r3 &&& 31)), .int 1, .int 0]) (pc := 249) (ll := [some (.ref 40), some (.int x1), some (.int r3), some (.int 0), some (.int 0), some (.int r144)]) (st := []) (c1 := 0) (s1 := 0) (g := (ab_G (ab_ui mi142 40 7 ((mi142 40 7) + 1)) ml143)) rfl ⟨trivial, trivial, trivial⟩ hc ?_
                            exact ab_wr 1 rfl trivial h
                      · have h := h.2 c
                        obtain ⟨mi157, ml158, hc, h⟩ := h
                        refine ab_wc 5 (c := 163) (as := [.ref 40, .int (x1 + 1)]) (pc := 177) (ll := [some (.ref 40), some (.int x1), some (.int r3), some (.int 0), some (.int 0), none]) (st := []) (c1 := 0) (s1 := 0) (g := (ab_G mi139 ml140)) rfl ⟨trivial, trivial, trivial, trivial, trivial⟩ hc ?_
                        obtain ⟨mi159, ml160, hc, h⟩ := h
                        refine ab_wc 3 (c := 156) (as := [.ref 40, .int 41]) (pc := 183) (ll := [some (.ref 40), some (.int x1), some (.int r3), some (.int 0), some (.int 0), none]) (st := []) (c1 := 0) (s1 := 0) (g := (ab_G mi157 ml158)) rfl ⟨trivial, trivial, trivial⟩ hc ?_
                        exact ab_wr 2 rfl ⟨trivial, trivial⟩ h
                    · have h := h.2 c
                      obtain ⟨mi161, ml162, hc, h⟩ := h
                      refine ab_wc 5 (c := 166) (as := [.ref 40, .int (x1 + 1)]) (pc := 134) (ll := [some (.ref 40), some (.int x1), some (.int r3), some (.int 0), some (.int 0), none]) (st := []) (c1 := 0) (s1 := 0) (g := (ab_G mi136 ml137)) rfl ⟨trivial, trivial, trivial, trivial, trivial⟩ hc ?_
                      exact ab_wr 14 rfl ⟨trivial, trivial, trivial, trivial, trivial, trivial, trivial, trivial, trivial, trivial, trivial, trivial, trivial, trivial⟩ h
            · have h := h.2 c
              refine ab_wk 3 (f' := (if x1 = 6 then 105 else 110, [some (.ref 40), some (.int x1), some (.int r3), some (.int 0), some (.int 0), none], [], 0, 0, (ab_G mi13 ml14))) rfl ⟨trivial, trivial, trivial, trivial⟩ ?_
              refine ab_wi (fun c => ?_) (fun c => ?_)
              · have h := h.1 c
                obtain ⟨mi163, ml164, hc, h⟩ := h
                refine ab_wc 3 (c := 153) (as := [.ref 40, .int 5]) (pc := 110) (ll := [some (.ref 40), some (.int x1), some (.int r3), some (.int 0), some (.int 0), none]) (st := []) (c1 := 0) (s1 := 0) (g := (ab_G mi13 ml14)) rfl ⟨trivial, trivial, trivial⟩ hc ?_
                refine ab_wk 3 (f' := (if 0 < (mi163 40 8) then 117 else 118, [some (.ref 40), some (.int x1), some (.int r3), some (.int 0), some (.int 0), none], [], 0, 0, (ab_G mi163 ml164))) rfl ⟨trivial, trivial, trivial, trivial⟩ ?_
                refine ab_wi (fun c => ?_) (fun c => ?_)
                · have h := h.1 c
                  exact ab_wr 1 rfl trivial h
                · have h := h.2 c
                  obtain ⟨r167, mi165, ml166, hc, h⟩ := h
                  refine ab_wc 3 (c := 158) (as := [.ref 40, .int 6]) (pc := 124) (ll := [some (.ref 40), some (.int x1), some (.int r3), some (.int 0), some (.int 0), none]) (st := []) (c1 := 0) (s1 := 0) (g := (ab_G mi163 ml164)) rfl ⟨trivial, trivial, trivial⟩ hc ?_
                  refine ab_wk 1 (f' := (if r167 = 0 then 161 else 127, [some (.ref 40), some (.int x1), some (.int r3), some (.int 0), some (.int 0), none], [], 0, 0, (ab_G mi165 ml166))) rfl ⟨trivial, trivial⟩ ?_
                  refine ab_wi (fun c => ?_) (fun c => ?_)
                  · have h := h.1 c
                    obtain ⟨r170, mi168, ml169, hc, h⟩ := h
                    refine ab_wc 3 (c := 157) (as := [.ref 40, .int 40]) (pc := 167) (ll := [some (.ref 40), some (.int x1), some (.int r3), some (.int 0), some (.int 0), none]) (st := []) (c1 := 0) (s1 := 0) (g := (ab_G mi165 ml166)) rfl ⟨trivial, trivial, trivial⟩ hc ?_
                    refine ab_wk 1 (f' := (if r170 = 0 then 186 else 170, [some (.ref 40), some (.int x1), some (.int r3), some (.int 0), some (.int 0), none], [], 0, 0, (ab_G mi168 ml169))) rfl ⟨trivial, trivial⟩ ?_
                    refine ab_wi (fun c => ?_) (fun c => ?_)
                    · have h := h.1 c
                      refine ab_wk 2 (f' := (if (0 : Int32) = 0 then 198 else 191, [some (.ref 40), some (.int x1), some (.int r3), some (.int 0), some (.int 0), none], [], 0, 0, (ab_G mi168 ml169))) rfl ⟨trivial, trivial, trivial⟩ ?_
                      refine ab_wit (c := ((0 : Int32) = 0)) (by decide) ?_
                      obtain ⟨r173, mi171, ml172, hc, h⟩ := h
                      refine ab_wc 3 (c := 155) (as := [.ref 40, .int 5]) (pc := 203) (ll := [some (.ref 40), some (.int x1), some (.int r3), some (.int 0), some (.int 0), none]) (st := []) (c1 := 0) (s1 := 0) (g := (ab_G mi168 ml169)) rfl ⟨trivial, trivial, trivial⟩ hc ?_
                      refine ab_wk 10 (f' := (if r3 < 0 then 220 else 224, [some (.ref 40), some (.int x1), some (.int r3), some (.int 0), some (.int 0), some (.int r173)], [.ref 40], 0, 0, (ab_G (ab_ui mi171 40 7 ((mi171 40 7) + 1)) ml172))) rfl ⟨trivial, trivial, trivial, trivial, trivial, trivial, trivial, trivial, trivial, trivial, trivial⟩ ?_
                      refine ab_wi (fun c => ?_) (fun c => ?_)
                      · have h := h.1 c
                        refine ab_wk 4 (f' := (if r3 < 0 then 231 else 244, [some (.ref 40), some (.int x1), some (.int r3), some (.int 0), some (.int 0), some (.int r173)], [.int 0, .ref 40], 0, 0, (ab_G (ab_ui mi171 40 7 ((mi171 40 7) + 1)) ml172))) rfl ⟨trivial, trivial, trivial, trivial, trivial⟩ ?_
                        refine ab_wi (fun c => ?_) (fun c => ?_)
                        · have h := h.1 c
                          refine ab_wk 2 (f' := (if r173 = 0 then 240 else 236, [some (.ref 40), some (.int x1), some (.int r3), some (.int 0), some (.int 0), some (.int r173)], [.int 0, .ref 40], 0, 0, (ab_G (ab_ui mi171 40 7 ((mi171 40 7) + 1)) ml172))) rfl ⟨trivial, trivial, trivial⟩ ?_
                          refine ab_wi (fun c => ?_) (fun c => ?_)
                          · have h := h.1 c
                            obtain ⟨mi174, ml175, hc, h⟩ := h
                            refine ab_wc 4 (c := 162) (as := [.ref 40, .int 0, .int 0, .int 0]) (pc := 249) (ll := [some (.ref 40), some (.int x1), some (.int r3), some (.int 0), some (.int 0), some (.int r173)]) (st := []) (c1 := 0) (s1 := 0) (g := (ab_G (ab_ui mi171 40 7 ((mi171 40 7) + 1)) ml172)) rfl ⟨trivial, trivial, trivial, trivial⟩ hc ?_
                            exact ab_wr 1 rfl trivial h
                          · have h := h.2 c
                            obtain ⟨mi176, ml177, hc, h⟩ := h
                            refine ab_wc 4 (c := 162) (as := [.ref 40, .int 0, .int 1, .int 0]) (pc := 249) (ll := [some (.ref 40), some (.int x1), some (.int r3), some (.int 0), some (.int 0), some (.int r173)]) (st := []) (c1 := 0) (s1 := 0) (g := (ab_G (ab_ui mi171 40 7 ((mi171 40 7) + 1)) ml172)) rfl ⟨trivial, trivial, trivial, trivial⟩ hc ?_
                            exact ab_wr 1 rfl trivial h
                        · have h := h.2 c
                          obtain ⟨mi178, ml179, hc, h⟩ := h
                          refine ab_wc 3 (c := 162) (as := [.ref 40, .int 0, .int 1, .int 0]) (pc := 249) (ll := [some (.ref 40), some (.int x1), some (.int r3), some (.int 0), some (.int 0), some (.int r173)]) (st := []) (c1 := 0) (s1 := 0) (g := (ab_G (ab_ui mi171 40 7 ((mi171 40 7) + 1)) ml172)) rfl ⟨trivial, trivial, trivial⟩ hc ?_
                          exact ab_wr 1 rfl trivial h
                      · have h := h.2 c
                        refine ab_wk 5 (f' := (if r3 < 0 then 231 else 244, [some (.ref 40), some (.int x1), some (.int r3), some (.int 0), some (.int 0), some (.int r173)], [.int ((1 : Int32) <<< (r3 &&& 31)), .ref 40], 0, 0, (ab_G (ab_ui mi171 40 7 ((mi171 40 7) + 1)) ml172))) rfl ⟨trivial, trivial, trivial, trivial, trivial, trivial⟩ ?_
                        refine ab_wi (fun c => ?_) (fun c => ?_)
                        · have h := h.1 c
                          refine ab_wk 2 (f' := (if r173 = 0 then 240 else 236, [some (.ref 40), some (.int x1), some (.int r3), some (.int 0), some (.int 0), some (.int r173)], [.int ((1 : Int32) <<< (r3 &&& 31)), .ref 40], 0, 0, (ab_G (ab_ui mi171 40 7 ((mi171 40 7) + 1)) ml172))) rfl ⟨trivial, trivial, trivial⟩ ?_
                          refine ab_wi (fun c => ?_) (fun c => ?_)
                          · have h := h.1 c
                            obtain ⟨mi180, ml181, hc, h⟩ := h
                            refine ab_wc 4 (c := 162) (as := [.ref 40, .int ((1 : Int32) <<< (r3 &&& 31)), .int 0, .int 0]) (pc := 249) (ll := [some (.ref 40), some (.int x1), some (.int r3), some (.int 0), some (.int 0), some (.int r173)]) (st := []) (c1 := 0) (s1 := 0) (g := (ab_G (ab_ui mi171 40 7 ((mi171 40 7) + 1)) ml172)) rfl ⟨trivial, trivial, trivial, trivial⟩ hc ?_
                            exact ab_wr 1 rfl trivial h
                          · have h := h.2 c
                            obtain ⟨mi182, ml183, hc, h⟩ := h
                            refine ab_wc 4 (c := 162) (as := [.ref 40, .int ((1 : Int32) <<< (r3 &&& 31)), .int 1, .int 0]) (pc := 249) (ll := [some (.ref 40), some (.int x1), some (.int r3), some (.int 0), some (.int 0), some (.int r173)]) (st := []) (c1 := 0) (s1 := 0) (g := (ab_G (ab_ui mi171 40 7 ((mi171 40 7) + 1)) ml172)) rfl ⟨trivial, trivial, trivial, trivial⟩ hc ?_
                            exact ab_wr 1 rfl trivial h
                        · have h := h.2 c
                          obtain ⟨mi184, ml185, hc, h⟩ := h
                          refine ab_wc 3 (c := 162) (as := [.ref 40, .int ((1 : Int32) <<< (r3 &&& 31)), .int 1, .int 0]) (pc := 249) (ll := [some (.ref 40), some (.int x1), some (.int r3), some (.int 0), some (.int 0), some (.int r173)]) (st := []) (c1 := 0) (s1 := 0) (g := (ab_G (ab_ui mi171 40 7 ((mi171 40 7) + 1)) ml172)) rfl ⟨trivial, trivial, trivial⟩ hc ?_
                          exact ab_wr 1 rfl trivial h
                    · have h := h.2 c
                      obtain ⟨mi186, ml187, hc, h⟩ := h
                      refine ab_wc 5 (c := 163) (as := [.ref 40, .int (x1 + 1)]) (pc := 177) (ll := [some (.ref 40), some (.int x1), some (.int r3), some (.int 0), some (.int 0), none]) (st := []) (c1 := 0) (s1 := 0) (g := (ab_G mi168 ml169)) rfl ⟨trivial, trivial, trivial, trivial, trivial⟩ hc ?_
                      obtain ⟨mi188, ml189, hc, h⟩ := h
                      refine ab_wc 3 (c := 156) (as := [.ref 40, .int 41]) (pc := 183) (ll := [some (.ref 40), some (.int x1), some (.int r3), some (.int 0), some (.int 0), none]) (st := []) (c1 := 0) (s1 := 0) (g := (ab_G mi186 ml187)) rfl ⟨trivial, trivial, trivial⟩ hc ?_
                      exact ab_wr 2 rfl ⟨trivial, trivial⟩ h
                  · have h := h.2 c
                    obtain ⟨mi190, ml191, hc, h⟩ := h
                    refine ab_wc 5 (c := 166) (as := [.ref 40, .int (x1 + 1)]) (pc := 134) (ll := [some (.ref 40), some (.int x1), some (.int r3), some (.int 0), some (.int 0), none]) (st := []) (c1 := 0) (s1 := 0) (g := (ab_G mi165 ml166)) rfl ⟨trivial, trivial, trivial, trivial, trivial⟩ hc ?_
                    exact ab_wr 14 rfl ⟨trivial, trivial, trivial, trivial, trivial, trivial, trivial, trivial, trivial, trivial, trivial, trivial, trivial, trivial⟩ h
              · have h := h.2 c
                refine ab_wk 3 (f' := (if 0 < (mi13 40 8) then 117 else 118, [some (.ref 40), some (.int x1), some (.int r3), some (.int 0), some (.int 0), none], [], 0, 0, (ab_G mi13 ml14))) rfl ⟨trivial, trivial, trivial, trivial⟩ ?_
                refine ab_wi (fun c => ?_) (fun c => ?_)
                · have h := h.1 c
                  exact ab_wr 1 rfl trivial h
                · have h := h.2 c
                  obtain ⟨r194, mi192, ml193, hc, h⟩ := h
                  refine ab_wc 3 (c := 158) (as := [.ref 40, .int 6]) (pc := 124) (ll := [some (.ref 40), some (.int x1), some (.int r3), some (.int 0), some (.int 0), none]) (st := []) (c1 := 0) (s1 := 0) (g := (ab_G mi13 ml14)) rfl ⟨trivial, trivial, trivial⟩ hc ?_
                  refine ab_wk 1 (f' := (if r194 = 0 then 161 else 127, [some (.ref 40), some (.int x1), some (.int r3), some (.int 0), some (.int 0), none], [], 0, 0, (ab_G mi192 ml193))) rfl ⟨trivial, trivial⟩ ?_
                  refine ab_wi (fun c => ?_) (fun c => ?_)
                  · have h := h.1 c
                    obtain ⟨r197, mi195, ml196, hc, h⟩ := h
                    refine ab_wc 3 (c := 157) (as := [.ref 40, .int 40]) (pc := 167) (ll := [some (.ref 40), some (.int x1), some (.int r3), some (.int 0), some (.int 0), none]) (st := []) (c1 := 0) (s1 := 0) (g := (ab_G mi192 ml193)) rfl ⟨trivial, trivial, trivial⟩ hc ?_
                    refine ab_wk 1 (f' := (if r197 = 0 then 186 else 170, [some (.ref 40), some (.int x1), some (.int r3), some (.int 0), some (.int 0), none], [], 0, 0, (ab_G mi195 ml196))) rfl ⟨trivial, trivial⟩ ?_
                    refine ab_wi (fun c => ?_) (fun c => ?_)
                    · have h := h.1 c
                      refine ab_wk 2 (f' := (if (0 : Int32) = 0 then 198 else 191, [some (.ref 40), some (.int x1), some (.int r3), some (.int 0), some (.int 0), none], [], 0, 0, (ab_G mi195 ml196))) rfl ⟨trivial, trivial, trivial⟩ ?_
                      refine ab_wit (c := ((0 : Int32) = 0)) (by decide) ?_
                      obtain ⟨r200, mi198, ml199, hc, h⟩ := h
                      refine ab_wc 3 (c := 155) (as := [.ref 40, .int 5]) (pc := 203) (ll := [some (.ref 40), some (.int x1), some (.int r3), some (.int 0), some (.int 0), none]) (st := []) (c1 := 0) (s1 := 0) (g := (ab_G mi195 ml196)) rfl ⟨trivial, trivial, trivial⟩ hc ?_
                      refine ab_wk 10 (f' := (if r3 < 0 then 220 else 224, [some (.ref 40), some (.int x1), some (.int r3), some (.int 0), some (.int 0), some (.int r200)], [.ref 40], 0, 0, (ab_G (ab_ui mi198 40 7 ((mi198 40 7) + 1)) ml199))) rfl ⟨trivial, trivial, trivial, trivial, trivial, trivial, trivial, trivial, trivial, trivial, trivial⟩ ?_
                      refine ab_wi (fun c => ?_) (fun c => ?_)
                      · have h := h.1 c
                        refine ab_wk 4 (f' := (if r3 < 0 then 231 else 244, [some (.ref 40), some (.int x1), some (.int r3), some (.int 0), some (.int 0), some (.int r200)], [.int 0, .ref 40], 0, 0, (ab_G (ab_ui mi198 40 7 ((mi198 40 7) + 1)) ml199))) rfl ⟨trivial, trivial, trivial, trivial, trivial⟩ ?_
                        refine ab_wi (fun c => ?_) (fun c => ?_)
                        · have h := h.1 c
                          refine ab_wk 2 (f' := (if r200 = 0 then 240 else 236, [some (.ref 40), some (.int x1), some (.int r3), some (.int 0), some (.int 0), some (.int r200)], [.int 0, .ref 40], 0, 0, (ab_G (ab_ui mi198 40 7 ((mi198 40 7) + 1)) ml199))) rfl ⟨trivial, trivial, trivial⟩ ?_
                          refine ab_wi (fun c => ?_) (fun c => ?_)
                          · have h := h.1 c
                            obtain ⟨mi201, ml202, hc, h⟩ := h
                            refine ab_wc 4 (c := 162) (as := [.ref 40, .int 0, .int 0, .int 0]) (pc := 249) (ll := [some (.ref 40), some (.int x1), some (.int r3), some (.int 0), some (.int 0), some (.int r200)]) (st := []) (c1 := 0) (s1 := 0) (g := (ab_G (ab_ui mi198 40 7 ((mi198 40 7) + 1)) ml199)) rfl ⟨trivial, trivial, trivial, trivial⟩ hc ?_
                            exact ab_wr 1 rfl trivial h
                          · have h := h.2 c
                            obtain ⟨mi203, ml204, hc, h⟩ := h
                            refine ab_wc 4 (c := 162) (as := [.ref 40, .int 0, .int 1, .int 0]) (pc := 249) (ll := [some (.ref 40), some (.int x1), some (.int r3), some (.int 0), some (.int 0), some (.int r200)]) (st := []) (c1 := 0) (s1 := 0) (g := (ab_G (ab_ui mi198 40 7 ((mi198 40 7) + 1)) ml199)) rfl ⟨trivial, trivial, trivial, trivial⟩ hc ?_
                            exact ab_wr 1 rfl trivial h
                        · have h := h.2 c
                          obtain ⟨mi205, ml206, hc, h⟩ := h
                          refine ab_wc 3 (c := 162) (as := [.ref 40, .int 0, .int 1, .int 0]) (pc := 249) (ll := [some (.ref 40), some (.int x1), some (.int r3), some (.int 0), some (.int 0), some (.int r200)]) (st := []) (c1 := 0) (s1 := 0) (g := (ab_G (ab_ui mi198 40 7 ((mi198 40 7) + 1)) ml199)) rfl ⟨trivial, trivial, trivial⟩ hc ?_
                          exact ab_wr 1 rfl trivial h
                      · have h := h.2 c
                        refine ab_wk 5 (f' := (if r3 < 0 then 231 else 244, [some (.ref 40), some (.int x1), some (.int r3), some (.int 0), some (.int 0), some (.int r200)], [.int ((1 : Int32) <<< (r3 &&& 31)), .ref 40], 0, 0, (ab_G (ab_ui mi198 40 7 ((mi198 40 7) + 1)) ml199))) rfl ⟨trivial, trivial, trivial, trivial, trivial, trivial⟩ ?_
                        refine ab_wi (fun c => ?_) (fun c => ?_)
                        · have h := h.1 c
                          refine ab_wk 2 (f' := (if r200 = 0 then 240 else 236, [some (.ref 40), some (.int x1), some (.int r3), some (.int 0), some (.int 0), some (.int r200)], [.int ((1 : Int32) <<< (r3 &&& 31)), .ref 40], 0, 0, (ab_G (ab_ui mi198 40 7 ((mi198 40 7) + 1)) ml199))) rfl ⟨trivial, trivial, trivial⟩ ?_
                          refine ab_wi (fun c => ?_) (fun c => ?_)
                          · have h := h.1 c
                            obtain ⟨mi207, ml208, hc, h⟩ := h
                            refine ab_wc 4 (c := 162) (as := [.ref 40, .int ((1 : Int32) <<< (r3 &&& 31)), .int 0, .int 0]) (pc := 249) (ll := [some (.ref 40), some (.int x1), some (.int r3), some (.int 0), some (.int 0), some (.int r200)]) (st := []) (c1 := 0) (s1 := 0) (g := (ab_G (ab_ui mi198 40 7 ((mi198 40 7) + 1)) ml199)) rfl ⟨trivial, trivial, trivial, trivial⟩ hc ?_
                            exact ab_wr 1 rfl trivial h
                          · have h := h.2 c
                            obtain ⟨mi209, ml210, hc, h⟩ := h
                            refine ab_wc 4 (c := 162) (as := [.ref 40, .int ((1 : Int32) <<< (r3 &&& 31)), .int 1, .int 0]) (pc := 249) (ll := [some (.ref 40), some (.int x1), some (.int r3), some (.int 0), some (.int 0), some (.int r200)]) (st := []) (c1 := 0) (s1 := 0) (g := (ab_G (ab_ui mi198 40 7 ((mi198 40 7) + 1)) ml199)) rfl ⟨trivial, trivial, trivial, trivial⟩ hc ?_
                            exact ab_wr 1 rfl trivial h
                        · have h := h.2 c
                          obtain ⟨mi211, ml212, hc, h⟩ := h
                          refine ab_wc 3 (c := 162) (as := [.ref 40, .int ((1 : Int32) <<< (r3 &&& 31)), .int 1, .int 0]) (pc := 249) (ll := [some (.ref 40), some (.int x1), some (.int r3), some (.int 0), some (.int 0), some (.int r200)]) (st := []) (c1 := 0) (s1 := 0) (g := (ab_G (ab_ui mi198 40 7 ((mi198 40 7) + 1)) ml199)) rfl ⟨trivial, trivial, trivial⟩ hc ?_
                          exact ab_wr 1 rfl trivial h
                    · have h := h.2 c
                      obtain ⟨mi213, ml214, hc, h⟩ := h
                      refine ab_wc 5 (c := 163) (as := [.ref 40, .int (x1 + 1)]) (pc := 177) (ll := [some (.ref 40), some (.int x1), some (.int r3), some (.int 0), some (.int 0), none]) (st := []) (c1 := 0) (s1 := 0) (g := (ab_G mi195 ml196)) rfl ⟨trivial, trivial, trivial, trivial, trivial⟩ hc ?_
                      obtain ⟨mi215, ml216, hc, h⟩ := h
                      refine ab_wc 3 (c := 156) (as := [.ref 40, .int 41]) (pc := 183) (ll := [some (.ref 40), some (.int x1), some (.int r3), some (.int 0), some (.int 0), none]) (st := []) (c1 := 0) (s1 := 0) (g := (ab_G mi213 ml214)) rfl ⟨trivial, trivial, trivial⟩ hc ?_
                      exact ab_wr 2 rfl ⟨trivial, trivial⟩ h
                  · have h := h.2 c
                    obtain ⟨mi217, ml218, hc, h⟩ := h
                    refine ab_wc 5 (c := 166) (as := [.ref 40, .int (x1 + 1)]) (pc := 134) (ll := [some (.ref 40), some (.int x1), some (.int r3), some (.int 0), some (.int 0), none]) (st := []) (c1 := 0) (s1 := 0) (g := (ab_G mi192 ml193)) rfl ⟨trivial, trivial, trivial, trivial, trivial⟩ hc ?_
                    exact ab_wr 14 rfl ⟨trivial, trivial, trivial, trivial, trivial, trivial, trivial, trivial, trivial, trivial, trivial, trivial, trivial, trivial⟩ h
          · have h := h.2 c
            refine ab_wk 5 (f' := (if r3 < 0 then 64 else 99, [some (.ref 40), some (.int x1), some (.int r3), some (.int 0), some (.int 1), none], [], 0, 0, (ab_G mi13 ml14))) rfl ⟨trivial, trivial, trivial, trivial, trivial, trivial⟩ ?_
            refine ab_wi (fun c => ?_) (fun c => ?_)
            · have h := h.1 c
              refine ab_wk 2 (f' := (if (0 : Int32) = 0 then 68 else 99, [some (.ref 40), some (.int x1), some (.int r3), some (.int 0), some (.int 1), none], [], 0, 0, (ab_G mi13 ml14))) rfl ⟨trivial, trivial, trivial⟩ ?_
              refine ab_wit (c := ((0 : Int32) = 0)) (by decide) ?_
              refine ab_wk 2 (f' := (if (1 : Int32) = 0 then 73 else 99, [some (.ref 40), some (.int x1), some (.int r3), some (.int 0), some (.int 1), none], [], 0, 0, (ab_G mi13 ml14))) rfl ⟨trivial, trivial, trivial⟩ ?_
              refine ab_wif (c := ((1 : Int32) = 0)) (by decide) ?_
              refine ab_wk 3 (f' := (if x1 = 6 then 105 else 110, [some (.ref 40), some (.int x1), some (.int r3), some (.int 0), some (.int 1), none], [], 0, 0, (ab_G mi13 ml14))) rfl ⟨trivial, trivial, trivial, trivial⟩ ?_
              refine ab_wi (fun c => ?_) (fun c => ?_)
              · have h := h.1 c
                obtain ⟨mi219, ml220, hc, h⟩ := h
                refine ab_wc 3 (c := 153) (as := [.ref 40, .int 5]) (pc := 110) (ll := [some (.ref 40), some (.int x1), some (.int r3), some (.int 0), some (.int 1), none]) (st := []) (c1 := 0) (s1 := 0) (g := (ab_G mi13 ml14)) rfl ⟨trivial, trivial, trivial⟩ hc ?_
                refine ab_wk 3 (f' := (if 0 < (mi219 40 8) then 117 else 118, [some (.ref 40), some (.int x1), some (.int r3), some (.int 0), some (.int 1), none], [], 0, 0, (ab_G mi219 ml220))) rfl ⟨trivial, trivial, trivial, trivial⟩ ?_
                refine ab_wi (fun c => ?_) (fun c => ?_)
                · have h := h.1 c
                  exact ab_wr 1 rfl trivial h
                · have h := h.2 c
                  obtain ⟨r223, mi221, ml222, hc, h⟩ := h
                  refine ab_wc 3 (c := 158) (as := [.ref 40, .int 6]) (pc := 124) (ll := [some (.ref 40), some (.int x1), some (.int r3), some (.int 0), some (.int 1), none]) (st := []) (c1 := 0) (s1 := 0) (g := (ab_G mi219 ml220)) rfl ⟨trivial, trivial, trivial⟩ hc ?_
                  refine ab_wk 1 (f' := (if r223 = 0 then 161 else 127, [some (.ref 40), some (.int x1), some (.int r3), some (.int 0), some (.int 1), none], [], 0, 0, (ab_G mi221 ml222))) rfl ⟨trivial, trivial⟩ ?_
                  refine ab_wi (fun c => ?_) (fun c => ?_)
                  · have h := h.1 c
                    obtain ⟨r226, mi224, ml225, hc, h⟩ := h
                    refine ab_wc 3 (c := 157) (as := [.ref 40, .int 40]) (pc := 167) (ll := [some (.ref 40), some (.int x1), some (.int r3), some (.int 0), some (.int 1), none]) (st := []) (c1 := 0) (s1 := 0) (g := (ab_G mi221 ml222)) rfl ⟨trivial, trivial, trivial⟩ hc ?_
                    refine ab_wk 1 (f' := (if r226 = 0 then 186 else 170, [some (.ref 40), some (.int x1), some (.int r3), some (.int 0), some (.int 1), none], [], 0, 0, (ab_G mi224 ml225))) rfl ⟨trivial, trivial⟩ ?_
                    refine ab_wi (fun c => ?_) (fun c => ?_)
                    · have h := h.1 c
                      refine ab_wk 2 (f' := (if (1 : Int32) = 0 then 198 else 191, [some (.ref 40), some (.int x1), some (.int r3), some (.int 0), some (.int 1), none], [], 0, 0, (ab_G mi224 ml225))) rfl ⟨trivial, trivial, trivial⟩ ?_
                      refine ab_wif (c := ((1 : Int32) = 0)) (by decide) ?_
                      obtain ⟨mi227, ml228, hc, h⟩ := h
                      refine ab_wc 2 (c := 168) (as := [.ref 40]) (pc := 195) (ll := [some (.ref 40), some (.int x1), some (.int r3), some (.int 0), some (.int 1), none]) (st := []) (c1 := 0) (s1 := 0) (g := (ab_G mi224 ml225)) rfl ⟨trivial, trivial⟩ hc ?_
                      exact ab_wr 2 rfl ⟨trivial, trivial⟩ h
                    · have h := h.2 c
                      obtain ⟨mi229, ml230, hc, h⟩ := h
                      refine ab_wc 5 (c := 163) (as := [.ref 40, .int (x1 + 1)]) (pc := 177) (ll := [some (.ref 40), some (.int x1), some (.int r3), some (.int 0), some (.int 1), none]) (st := []) (c1 := 0) (s1 := 0) (g := (ab_G mi224 ml225)) rfl ⟨trivial, trivial, trivial, trivial, trivial⟩ hc ?_
                      obtain ⟨mi231, ml232, hc, h⟩ := h
                      refine ab_wc 3 (c := 156) (as := [.ref 40, .int 41]) (pc := 183) (ll := [some (.ref 40), some (.int x1), some (.int r3), some (.int 0), some (.int 1), none]) (st := []) (c1 := 0) (s1 := 0) (g := (ab_G mi229 ml230)) rfl ⟨trivial, trivial, trivial⟩ hc ?_
                      exact ab_wr 2 rfl ⟨trivial, trivial⟩ h
                  · have h := h.2 c
                    obtain ⟨mi233, ml234, hc, h⟩ := h
                    refine ab_wc 5 (c := 166) (as := [.ref 40, .int (x1 + 1)]) (pc := 134) (ll := [some (.ref 40), some (.int x1), some (.int r3), some (.int 0), some (.int 1), none]) (st := []) (c1 := 0) (s1 := 0) (g := (ab_G mi221 ml222)) rfl ⟨trivial, trivial, trivial, trivial, trivial⟩ hc ?_
                    exact ab_wr 14 rfl ⟨trivial, trivial, trivial, trivial, trivial, trivial, trivial, trivial, trivial, trivial, trivial, trivial, trivial, trivial⟩ h
              · have h := h.2 c
                refine ab_wk 3 (f' := (if 0 < (mi13 40 8) then 117 else 118, [some (.ref 40), some (.int x1), some (.int r3), some (.int 0), some (.int 1), none], [], 0, 0, (ab_G mi13 ml14))) rfl ⟨trivial, trivial, trivial, trivial⟩ ?_
                refine ab_wi (fun c => ?_) (fun c => ?_)
                · have h := h.1 c
                  exact ab_wr 1 rfl trivial h
                · have h := h.2 c
                  obtain ⟨r237, mi235, ml236, hc, h⟩ := h
                  refine ab_wc 3 (c := 158) (as := [.ref 40, .int 6]) (pc := 124) (ll := [some (.ref 40), some (.int x1), some (.int r3), some (.int 0), some (.int 1), none]) (st := []) (c1 := 0) (s1 := 0) (g := (ab_G mi13 ml14)) rfl ⟨trivial, trivial, trivial⟩ hc ?_
                  refine ab_wk 1 (f' := (if r237 = 0 then 161 else 127, [some (.ref 40), some (.int x1), some (.int r3), some (.int 0), some (.int 1), none], [], 0, 0, (ab_G mi235 ml236))) rfl ⟨trivial, trivial⟩ ?_
                  refine ab_wi (fun c => ?_) (fun c => ?_)
                  · have h := h.1 c
                    obtain ⟨r240, mi238, ml239, hc, h⟩ := h
                    refine ab_wc 3 (c := 157) (as := [.ref 40, .int 40]) (pc := 167) (ll := [some (.ref 40), some (.int x1), some (.int r3), some (.int 0), some (.int 1), none]) (st := []) (c1 := 0) (s1 := 0) (g := (ab_G mi235 ml236)) rfl ⟨trivial, trivial, trivial⟩ hc ?_
                    refine ab_wk 1 (f' := (if r240 = 0 then 186 else 170, [some (.ref 40), some (.int x1), some (.int r3), some (.int 0), some (.int 1), none], [], 0, 0, (ab_G mi238 ml239))) rfl ⟨trivial, trivial⟩ ?_
                    refine ab_wi (fun c => ?_) (fun c => ?_)
                    · have h := h.1 c
                      refine ab_wk 2 (f' := (if (1 : Int32) = 0 then 198 else 191, [some (.ref 40), some (.int x1), some (.int r3), some (.int 0), some (.int 1), none], [], 0, 0, (ab_G mi238 ml239))) rfl ⟨trivial, trivial, trivial⟩ ?_
                      refine ab_wif (c := ((1 : Int32) = 0)) (by decide) ?_
                      obtain ⟨mi241, ml242, hc, h⟩ := h
                      refine ab_wc 2 (c := 168) (as := [.ref 40]) (pc := 195) (ll := [some (.ref 40), some (.int x1), some (.int r3), some (.int 0), some (.int 1), none]) (st := []) (c1 := 0) (s1 := 0) (g := (ab_G mi238 ml239)) rfl ⟨trivial, trivial⟩ hc ?_
                      exact ab_wr 2 rfl ⟨trivial, trivial⟩ h
                    · have h := h.2 c
                      obtain ⟨mi243, ml244, hc, h⟩ := h
                      refine ab_wc 5 (c := 163) (as := [.ref 40, .int (x1 + 1)]) (pc := 177) (ll := [some (.ref 40), some (.int x1), some (.int r3), some (.int 0), some (.int 1), none]) (st := []) (c1 := 0) (s1 := 0) (g := (ab_G mi238 ml239)) rfl ⟨trivial, trivial, trivial, trivial, trivial⟩ hc ?_
                      obtain ⟨mi245, ml246, hc, h⟩ := h
                      refine ab_wc 3 (c := 156) (as := [.ref 40, .int 41]) (pc := 183) (ll := [some (.ref 40), some (.int x1), some (.int r3), some (.int 0), some (.int 1), none]) (st := []) (c1 := 0) (s1 := 0) (g := (ab_G mi243 ml244)) rfl ⟨trivial, trivial, trivial⟩ hc ?_
                      exact ab_wr 2 rfl ⟨trivial, trivial⟩ h
                  · have h := h.2 c
                    obtain ⟨mi247, ml248, hc, h⟩ := h
                    refine ab_wc 5 (c := 166) (as := [.ref 40, .int (x1 + 1)]) (pc := 134) (ll := [some (.ref 40), some (.int x1), some (.int r3), some (.int 0), some (.int 1), none]) (st := []) (c1 := 0) (s1 := 0) (g := (ab_G mi235 ml236)) rfl ⟨trivial, trivial, trivial, trivial, trivial⟩ hc ?_
                    exact ab_wr 14 rfl ⟨trivial, trivial, trivial, trivial, trivial, trivial, trivial, trivial, trivial, trivial, trivial, trivial, trivial, trivial⟩ h
            · have h := h.2 c
              refine ab_wk 3 (f' := (if x1 = 6 then 105 else 110, [some (.ref 40), some (.int x1), some (.int r3), some (.int 0), some (.int 1), none], [], 0, 0, (ab_G mi13 ml14))) rfl ⟨trivial, trivial, trivial, trivial⟩ ?_
              refine ab_wi (fun c => ?_) (fun c => ?_)
              · have h := h.1 c
                obtain ⟨mi249, ml250, hc, h⟩ := h
                refine ab_wc 3 (c := 153) (as := [.ref 40, .int 5]) (pc := 110) (ll := [some (.ref 40), some (.int x1), some (.int r3), some (.int 0), some (.int 1), none]) (st := []) (c1 := 0) (s1 := 0) (g := (ab_G mi13 ml14)) rfl ⟨trivial, trivial, trivial⟩ hc ?_
                refine ab_wk 3 (f' := (if 0 < (mi249 40 8) then 117 else 118, [some (.ref 40), some (.int x1), some (.int r3), some (.int 0), some (.int 1), none], [], 0, 0, (ab_G mi249 ml250))) rfl ⟨trivial, trivial, trivial, trivial⟩ ?_
                refine ab_wi (fun c => ?_) (fun c => ?_)
                · have h := h.1 c
                  exact ab_wr 1 rfl trivial h
                · have h := h.2 c
                  obtain ⟨r253, mi251, ml252, hc, h⟩ := h
                  refine ab_wc 3 (c := 158) (as := [.ref 40, .int 6]) (pc := 124) (ll := [some (.ref 40), some (.int x1), some (.int r3), some (.int 0), some (.int 1), none]) (st := []) (c1 := 0) (s1 := 0) (g := (ab_G mi249 ml250)) rfl ⟨trivial, trivial, trivial⟩ hc ?_
                  refine ab_wk 1 (f' := (if r253 = 0 then 161 else 127, [some (.ref 40), some (.int x1), some (.int r3), some (.int 0), some (.int 1), none], [], 0, 0, (ab_G mi251 ml252))) rfl ⟨trivial, trivial⟩ ?_
                  refine ab_wi (fun c => ?_) (fun c => ?_)
                  · have h := h.1 c
                    obtain ⟨r256, mi254, ml255, hc, h⟩ := h
                    refine ab_wc 3 (c := 157) (as := [.ref 40, .int 40]) (pc := 167) (ll := [some (.ref 40), some (.int x1), some (.int r3), some (.int 0), some (.int 1), none]) (st := []) (c1 := 0) (s1 := 0) (g := (ab_G mi251 ml252)) rfl ⟨trivial, trivial, trivial⟩ hc ?_
                    refine ab_wk 1 (f' := (if r256 = 0 then 186 else 170, [some (.ref 40), some (.int x1), some (.int r3), some (.int 0), some (.int 1), none], [], 0, 0, (ab_G mi254 ml255))) rfl ⟨trivial, trivial⟩ ?_
                    refine ab_wi (fun c => ?_) (fun c => ?_)
                    · have h := h.1 c
                      refine ab_wk 2 (f' := (if (1 : Int32) = 0 then 198 else 191, [some (.ref 40), some (.int x1), some (.int r3), some (.int 0), some (.int 1), none], [], 0, 0, (ab_G mi254 ml255))) rfl ⟨trivial, trivial, trivial⟩ ?_
                      refine ab_wif (c := ((1 : Int32) = 0)) (by decide) ?_
                      obtain ⟨mi257, ml258, hc, h⟩ := h
                      refine ab_wc 2 (c := 168) (as := [.ref 40]) (pc := 195) (ll := [some (.ref 40), some (.int x1), some (.int r3), some (.int 0), some (.int 1), none]) (st := []) (c1 := 0) (s1 := 0) (g := (ab_G mi254 ml255)) rfl ⟨trivial, trivial⟩ hc ?_
                      exact ab_wr 2 rfl ⟨trivial, trivial⟩ h
                    · have h := h.2 c
                      obtain ⟨mi259, ml260, hc, h⟩ := h
                      refine ab_wc 5 (c := 163) (as := [.ref 40, .int (x1 + 1)]) (pc := 177) (ll := [some (.ref 40), some (.int x1), some (.int r3), some (.int 0), some (.int 1), none]) (st := []) (c1 := 0) (s1 := 0) (g := (ab_G mi254 ml255)) rfl ⟨trivial, trivial, trivial, trivial, trivial⟩ hc ?_
                      obtain ⟨mi261, ml262, hc, h⟩ := h
                      refine ab_wc 3 (c := 156) (as := [.ref 40, .int 41]) (pc := 183) (ll := [some (.ref 40), some (.int x1), some (.int r3), some (.int 0), some (.int 1), none]) (st := []) (c1 := 0) (s1 := 0) (g := (ab_G mi259 ml260)) rfl ⟨trivial, trivial, trivial⟩ hc ?_
                      exact ab_wr 2 rfl ⟨trivial, trivial⟩ h
                  · have h := h.2 c
                    obtain ⟨mi263, ml264, hc, h⟩ := h
                    refine ab_wc 5 (c := 166) (as := [.ref 40, .int (x1 + 1)]) (pc := 134) (ll := [some (.ref 40), some (.int x1), some (.int r3), some (.int 0), some (.int 1), none]) (st := []) (c1 := 0) (s1 := 0) (g := (ab_G mi251 ml252)) rfl ⟨trivial, trivial, trivial, trivial, trivial⟩ hc ?_
                    exact ab_wr 14 rfl ⟨trivial, trivial, trivial, trivial, trivial, trivial, trivial, trivial, trivial, trivial, trivial, trivial, trivial, trivial⟩ h
              · have h := h.2 c
                refine ab_wk 3 (f' := (if 0 < (mi13 40 8) then 117 else 118, [some (.ref 40), some (.int x1), some (.int r3), some (.int 0), some (.int 1), none], [], 0, 0, (ab_G mi13 ml14))) rfl ⟨trivial, trivial, trivial, trivial⟩ ?_
                refine ab_wi (fun c => ?_) (fun c => ?_)
                · have h := h.1 c
                  exact ab_wr 1 rfl trivial h
                · have h := h.2 c
                  obtain ⟨r267, mi265, ml266, hc, h⟩ := h
                  refine ab_wc 3 (c := 158) (as := [.ref 40, .int 6]) (pc := 124) (ll := [some (.ref 40), some (.int x1), some (.int r3), some (.int 0), some (.int 1), none]) (st := []) (c1 := 0) (s1 := 0) (g := (ab_G mi13 ml14)) rfl ⟨trivial, trivial, trivial⟩ hc ?_
                  refine ab_wk 1 (f' := (if r267 = 0 then 161 else 127, [some (.ref 40), some (.int x1), some (.int r3), some (.int 0), some (.int 1), none], [], 0, 0, (ab_G mi265 ml266))) rfl ⟨trivial, trivial⟩ ?_
                  refine ab_wi (fun c => ?_) (fun c => ?_)
                  · have h := h.1 c
                    obtain ⟨r270, mi268, ml269, hc, h⟩ := h
                    refine ab_wc 3 (c := 157) (as := [.ref 40, .int 40]) (pc := 167) (ll := [some (.ref 40), some (.int x1), some (.int r3), some (.int 0), some (.int 1), none]) (st := []) (c1 := 0) (s1 := 0) (g := (ab_G mi265 ml266)) rfl ⟨trivial, trivial, trivial⟩ hc ?_
                    refine ab_wk 1 (f' := (if r270 = 0 then 186 else 170, [some (.ref 40), some (.int x1), some (.int r3), some (.int 0), some (.int 1), none], [], 0, 0, (ab_G mi268 ml269))) rfl ⟨trivial, trivial⟩ ?_
                    refine ab_wi (fun c => ?_) (fun c => ?_)
                    · have h := h.1 c
                      refine ab_wk 2 (f' := (if (1 : Int32) = 0 then 198 else 191, [some (.ref 40), some (.int x1), some (.int r3), some (.int 0), some (.int 1), none], [], 0, 0, (ab_G mi268 ml269))) rfl ⟨trivial, trivial, trivial⟩ ?_
                      refine ab_wif (c := ((1 : Int32) = 0)) (by decide) ?_
                      obtain ⟨mi271, ml272, hc, h⟩ := h
                      refine ab_wc 2 (c := 168) (as := [.ref 40]) (pc := 195) (ll := [some (.ref 40), some (.int x1), some (.int r3), some (.int 0), some (.int 1), none]) (st := []) (c1 := 0) (s1 := 0) (g := (ab_G mi268 ml269)) rfl ⟨trivial, trivial⟩ hc ?_
                      exact ab_wr 2 rfl ⟨trivial, trivial⟩ h
                    · have h := h.2 c
                      obtain ⟨mi273, ml274, hc, h⟩ := h
                      refine ab_wc 5 (c := 163) (as := [.ref 40, .int (x1 + 1)]) (pc := 177) (ll := [some (.ref 40), some (.int x1), some (.int r3), some (.int 0), some (.int 1), none]) (st := []) (c1 := 0) (s1 := 0) (g := (ab_G mi268 ml269)) rfl ⟨trivial, trivial, trivial, trivial, trivial⟩ hc ?_
                      obtain ⟨mi275, ml276, hc, h⟩ := h
                      refine ab_wc 3 (c := 156) (as := [.ref 40, .int 41]) (pc := 183) (ll := [some (.ref 40), some (.int x1), some (.int r3), some (.int 0), some (.int 1), none]) (st := []) (c1 := 0) (s1 := 0) (g := (ab_G mi273 ml274)) rfl ⟨trivial, trivial, trivial⟩ hc ?_
                      exact ab_wr 2 rfl ⟨trivial, trivial⟩ h
                  · have h := h.2 c
                    obtain ⟨mi277, ml278, hc, h⟩ := h
                    refine ab_wc 5 (c := 166) (as := [.ref 40, .int (x1 + 1)]) (pc := 134) (ll := [some (.ref 40), some (.int x1), some (.int r3), some (.int 0), some (.int 1), none]) (st := []) (c1 := 0) (s1 := 0) (g := (ab_G mi265 ml266)) rfl ⟨trivial, trivial, trivial, trivial, trivial⟩ hc ?_
                    exact ab_wr 14 rfl ⟨trivial, trivial, trivial, trivial, trivial, trivial, trivial, trivial, trivial, trivial, trivial, trivial, trivial, trivial⟩ h
        · have h := h.2 c
          refine ab_wk 5 (f' := (if r3 < 0 then 64 else 99, [some (.ref 40), some (.int x1), some (.int r3), some (.int 0), some (.int 1), none], [], 0, 0, (ab_G mi10 ml11))) rfl ⟨trivial, trivial, trivial, trivial, trivial, trivial⟩ ?_
          refine ab_wi (fun c => ?_) (fun c => ?_)
          · have h := h.1 c
            refine ab_wk 2 (f' := (if (0 : Int32) = 0 then 68 else 99, [some (.ref 40), some (.int x1), some (.int r3), some (.int 0), some (.int 1), none], [], 0, 0, (ab_G mi10 ml11))) rfl ⟨trivial, trivial, trivial⟩ ?_
            refine ab_wit (c := ((0 : Int32) = 0)) (by decide) ?_
            refine ab_wk 2 (f' := (if (1 : Int32) = 0 then 73 else 99, [some (.ref 40), some (.int x1), some (.int r3), some (.int 0), some (.int 1), none], [], 0, 0, (ab_G mi10 ml11))) rfl ⟨trivial, trivial, trivial⟩ ?_
            refine ab_wif (c := ((1 : Int32) = 0)) (by decide) ?_
            refine ab_wk 3 (f' := (if x1 = 6 then 105 else 110, [some (.ref 40), some (.int x1), some (.int r3), some (.int 0), some (.int 1), none], [], 0, 0, (ab_G mi10 ml11))) rfl ⟨trivial, trivial, trivial, trivial⟩ ?_
            refine ab_wi (fun c => ?_) (fun c => ?_)
            · have h := h.1 c
              obtain ⟨mi279, ml280, hc, h⟩ := h
              refine ab_wc 3 (c := 153) (as := [.ref 40, .int 5]) (pc := 110) (ll := [some (.ref 40), some (.int x1), some (.int r3), some (.int 0), some (.int 1), none]) (st := []) (c1 := 0) (s1 := 0) (g := (ab_G mi10 ml11)) rfl ⟨trivial, trivial, trivial⟩ hc ?_
              refine ab_wk 3 (f' := (if 0 < (mi279 40 8) then 117 else 118, [some (.ref 40), some (.int x1), some (.int r3), some (.int 0), some (.int 1), none], [], 0, 0, (ab_G mi279 ml280))) rfl ⟨trivial, trivial, trivial, trivial⟩ ?_
              refine ab_wi (fun c => ?_) (fun c => ?_)
              · have h := h.1 c
                exact ab_wr 1 rfl trivial h
              · have h := h.2 c
                obtain ⟨r283, mi281, ml282, hc, h⟩ := h
                refine ab_wc 3 (c := 158) (as := [.ref 40, .int 6]) (pc := 124) (ll := [some (.ref 40), some (.int x1), some (.int r3), some (.int 0), some (.int 1), none]) (st := []) (c1 := 0) (s1 := 0) (g := (ab_G mi279 ml280)) rfl ⟨trivial, trivial, trivial⟩ hc ?_
                refine ab_wk 1 (f' := (if r283 = 0 then 161 else 127, [some (.ref 40), some (.int x1), some (.int r3), some (.int 0), some (.int 1), none], [], 0, 0, (ab_G mi281 ml282))) rfl ⟨trivial, trivial⟩ ?_
                refine ab_wi (fun c => ?_) (fun c => ?_)
                · have h := h.1 c
                  obtain ⟨r286, mi284, ml285, hc, h⟩ := h
                  refine ab_wc 3 (c := 157) (as := [.ref 40, .int 40]) (pc := 167) (ll := [some (.ref 40), some (.int x1), some (.int r3), some (.int 0), some (.int 1), none]) (st := []) (c1 := 0) (s1 := 0) (g := (ab_G mi281 ml282)) rfl ⟨trivial, trivial, trivial⟩ hc ?_
                  refine ab_wk 1 (f' := (if r286 = 0 then 186 else 170, [some (.ref 40), some (.int x1), some (.int r3), some (.int 0), some (.int 1), none], [], 0, 0, (ab_G mi284 ml285))) rfl ⟨trivial, trivial⟩ ?_
                  refine ab_wi (fun c => ?_) (fun c => ?_)
                  · have h := h.1 c
                    refine ab_wk 2 (f' := (if (1 : Int32) = 0 then 198 else 191, [some (.ref 40), some (.int x1), some (.int r3), some (.int 0), some (.int 1), none], [], 0, 0, (ab_G mi284 ml285))) rfl ⟨trivial, trivial, trivial⟩ ?_
                    refine ab_wif (c := ((1 : Int32) = 0)) (by decide) ?_
                    obtain ⟨mi287, ml288, hc, h⟩ := h
                    refine ab_wc 2 (c := 168) (as := [.ref 40]) (pc := 195) (ll := [some (.ref 40), some (.int x1), some (.int r3), some (.int 0), some (.int 1), none]) (st := []) (c1 := 0) (s1 := 0) (g := (ab_G mi284 ml285)) rfl ⟨trivial, trivial⟩ hc ?_
                    exact ab_wr 2 rfl ⟨trivial, trivial⟩ h
                  · have h := h.2 c
                    obtain ⟨mi289, ml290, hc, h⟩ := h
                    refine ab_wc 5 (c := 163) (as := [.ref 40, .int (x1 + 1)]) (pc := 177) (ll := [some (.ref 40), some (.int x1), some (.int r3), some (.int 0), some (.int 1), none]) (st := []) (c1 := 0) (s1 := 0) (g := (ab_G mi284 ml285)) rfl ⟨trivial, trivial, trivial, trivial, trivial⟩ hc ?_
                    obtain ⟨mi291, ml292, hc, h⟩ := h
                    refine ab_wc 3 (c := 156) (as := [.ref 40, .int 41]) (pc := 183) (ll := [some (.ref 40), some (.int x1), some (.int r3), some (.int 0), some (.int 1), none]) (st := []) (c1 := 0) (s1 := 0) (g := (ab_G mi289 ml290)) rfl ⟨trivial, trivial, trivial⟩ hc ?_
                    exact ab_wr 2 rfl ⟨trivial, trivial⟩ h
                · have h := h.2 c
                  obtain ⟨mi293, ml294, hc, h⟩ := h
                  refine ab_wc 5 (c := 166) (as := [.ref 40, .int (x1 + 1)]) (pc := 134) (ll := [some (.ref 40), some (.int x1), some (.int r3), some (.int 0), some (.int 1), none]) (st := []) (c1 := 0) (s1 := 0) (g := (ab_G mi281 ml282)) rfl ⟨trivial, trivial, trivial, trivial, trivial⟩ hc ?_
                  exact ab_wr 14 rfl ⟨trivial, trivial, trivial, trivial, trivial, trivial, trivial, trivial, trivial, trivial, trivial, trivial, trivial, trivial⟩ h
            · have h := h.2 c
              refine ab_wk 3 (f' := (if 0 < (mi10 40 8) then 117 else 118, [some (.ref 40), some (.int x1), some (.int r3), some (.int 0), some (.int 1), none], [], 0, 0, (ab_G mi10 ml11))) rfl ⟨trivial, trivial, trivial, trivial⟩ ?_
              refine ab_wi (fun c => ?_) (fun c => ?_)
              · have h := h.1 c
                exact ab_wr 1 rfl trivial h
              · have h := h.2 c
                obtain ⟨r297, mi295, ml296, hc, h⟩ := h
                refine ab_wc 3 (c := 158) (as := [.ref 40, .int 6]) (pc := 124) (ll := [some (.ref 40), some (.int x1), some (.int r3), some (.int 0), some (.int 1), none]) (st := []) (c1 := 0) (s1 := 0) (g := (ab_G mi10 ml11)) rfl ⟨trivial, trivial, trivial⟩ hc ?_
                refine ab_wk 1 (f' := (if r297 = 0 then 161 else 127, [some (.ref 40), some (.int x1), some (.int r3), some (.int 0), some (.int 1), none], [], 0, 0, (ab_G mi295 ml296))) rfl ⟨trivial, trivial⟩ ?_
                refine ab_wi (fun c => ?_) (fun c => ?_)
                · have h := h.1 c
                  obtain ⟨r300, mi298, ml299, hc, h⟩ := h
                  refine ab_wc 3 (c := 157) (as := [.ref 40, .int 40]) (pc := 167) (ll := [some (.ref 40), some (.int x1), some (.int r3), some (.int 0), some (.int 1), none]) (st := []) (c1 := 0) (s1 := 0) (g := (ab_G mi295 ml296)) rfl ⟨trivial, trivial, trivial⟩ hc ?_
                  refine ab_wk 1 (f' := (if r300 = 0 then 186 else 170, [some (.ref 40), some (.int x1), some (.int r3), some (.int 0), some (.int 1), none], [], 0, 0, (ab_G mi298 ml299))) rfl ⟨trivial, trivial⟩ ?_
                  refine ab_wi (fun c => ?_) (fun c => ?_)
                  · have h := h.1 c
                    refine ab_wk 2 (f' := (if (1 : Int32) = 0 then 198 else 191, [some (.ref 40), some (.int x1), some (.int r3), some (.int 0), some (.int 1), none], [], 0, 0, (ab_G mi298 ml299))) rfl ⟨trivial, trivial, trivial⟩ ?_
                    refine ab_wif (c := ((1 : Int32) = 0)) (by decide) ?_
                    obtain ⟨mi301, ml302, hc, h⟩ := h
                    refine ab_wc 2 (c := 168) (as := [.ref 40]) (pc := 195) (ll := [some (.ref 40), some (.int x1), some (.int r3), some (.int 0), some (.int 1), none]) (st := []) (c1 := 0) (s1 := 0) (g := (ab_G mi298 ml299)) rfl ⟨trivial, trivial⟩ hc ?_
                    exact ab_wr 2 rfl ⟨trivial, trivial⟩ h
                  · have h := h.2 c
                    obtain ⟨mi303, ml304, hc, h⟩ := h
                    refine ab_wc 5 (c := 163) (as := [.ref 40, .int (x1 + 1)]) (pc := 177) (ll := [some (.ref 40), some (.int x1), some (.int r3), some (.int 0), some (.int 1), none]) (st := []) (c1 := 0) (s1 := 0) (g := (ab_G mi298 ml299)) rfl ⟨trivial, trivial, trivial, trivial, trivial⟩ hc ?_
                    obtain ⟨mi305, ml306, hc, h⟩ := h
                    refine ab_wc 3 (c := 156) (as := [.ref 40, .int 41]) (pc := 183) (ll := [some (.ref 40), some (.int x1), some (.int r3), some (.int 0), some (.int 1), none]) (st := []) (c1 := 0) (s1 := 0) (g := (ab_G mi303 ml304)) rfl ⟨trivial, trivial, trivial⟩ hc ?_
                    exact ab_wr 2 rfl ⟨trivial, trivial⟩ h
                · have h := h.2 c
                  obtain ⟨mi307, ml308, hc, h⟩ := h
                  refine ab_wc 5 (c := 166) (as := [.ref 40, .int (x1 + 1)]) (pc := 134) (ll := [some (.ref 40), some (.int x1), some (.int r3), some (.int 0), some (.int 1), none]) (st := []) (c1 := 0) (s1 := 0) (g := (ab_G mi295 ml296)) rfl ⟨trivial, trivial, trivial, trivial, trivial⟩ hc ?_
                  exact ab_wr 14 rfl ⟨trivial, trivial, trivial, trivial, trivial, trivial, trivial, trivial, trivial, trivial, trivial, trivial, trivial, trivial⟩ h
          · have h := h.2 c
            refine ab_wk 3 (f' := (if x1 = 6 then 105 else 110, [some (.ref 40), some (.int x1), some (.int r3), some (.int 0), some (.int 1), none], [], 0, 0, (ab_G mi10 ml11))) rfl ⟨trivial, trivial, trivial, trivial⟩ ?_
            refine ab_wi (fun c => ?_) (fun c => ?_)
            · have h := h.1 c
              obtain ⟨mi309, ml310, hc, h⟩ := h
              refine ab_wc 3 (c := 153) (as := [.ref 40, .int 5]) (pc := 110) (ll := [some (.ref 40), some (.int x1), some (.int r3), some (.int 0), some (.int 1), none]) (st := []) (c1 := 0) (s1 := 0) (g := (ab_G mi10 ml11)) rfl ⟨trivial, trivial, trivial⟩ hc ?_
              refine ab_wk 3 (f' := (if 0 < (mi309 40 8) then 117 else 118, [some (.ref 40), some (.int x1), some (.int r3), some (.int 0), some (.int 1), none], [], 0, 0, (ab_G mi309 ml310))) rfl ⟨trivial, trivial, trivial, trivial⟩ ?_
              refine ab_wi (fun c => ?_) (fun c => ?_)
              · have h := h.1 c
                exact ab_wr 1 rfl trivial h
              · have h := h.2 c
                obtain ⟨r313, mi311, ml312, hc, h⟩ := h
                refine ab_wc 3 (c := 158) (as := [.ref 40, .int 6]) (pc := 124) (ll := [some (.ref 40), some (.int x1), some (.int r3), some (.int 0), some (.int 1), none]) (st := []) (c1 := 0) (s1 := 0) (g := (ab_G mi309 ml310)) rfl ⟨trivial, trivial, trivial⟩ hc ?_
                refine ab_wk 1 (f' := (if r313 = 0 then 161 else 127, [some (.ref 40), some (.int x1), some (.int r3), some (.int 0), some (.int 1), none], [], 0, 0, (ab_G mi311 ml312))) rfl ⟨trivial, trivial⟩ ?_
                refine ab_wi (fun c => ?_) (fun c => ?_)
                · have h := h.1 c
                  obtain ⟨r316, mi314, ml315, hc, h⟩ := h
                  refine ab_wc 3 (c := 157) (as := [.ref 40, .int 40]) (pc := 167) (ll := [some (.ref 40), some (.int x1), some (.int r3), some (.int 0), some (.int 1), none]) (st := []) (c1 := 0) (s1 := 0) (g := (ab_G mi311 ml312)) rfl ⟨trivial, trivial, trivial⟩ hc ?_
                  refine ab_wk 1 (f' := (if r316 = 0 then 186 else 170, [some (.ref 40), some (.int x1), some (.int r3), some (.int 0), some (.int 1), none], [], 0, 0, (ab_G mi314 ml315))) rfl ⟨trivial, trivial⟩ ?_
                  refine ab_wi (fun c => ?_) (fun c => ?_)
                  · have h := h.1 c
                    refine ab_wk 2 (f' := (if (1 : Int32) = 0 then 198 else 191, [some (.ref 40), some (.int x1), some (.int r3), some (.int 0), some (.int 1), none], [], 0, 0, (ab_G mi314 ml315))) rfl ⟨trivial, trivial, trivial⟩ ?_
                    refine ab_wif (c := ((1 : Int32) = 0)) (by decide) ?_
                    obtain ⟨mi317, ml318, hc, h⟩ := h
                    refine ab_wc 2 (c := 168) (as := [.ref 40]) (pc := 195) (ll := [some (.ref 40), some (.int x1), some (.int r3), some (.int 0), some (.int 1), none]) (st := []) (c1 := 0) (s1 := 0) (g := (ab_G mi314 ml315)) rfl ⟨trivial, trivial⟩ hc ?_
                    exact ab_wr 2 rfl ⟨trivial, trivial⟩ h
                  · have h := h.2 c
                    obtain ⟨mi319, ml320, hc, h⟩ := h
                    refine ab_wc 5 (c := 163) (as := [.ref 40, .int (x1 + 1)]) (pc := 177) (ll := [some (.ref 40), some (.int x1), some (.int r3), some (.int 0), some (.int 1), none]) (st := []) (c1 := 0) (s1 := 0) (g := (ab_G mi314 ml315)) rfl ⟨trivial, trivial, trivial, trivial, trivial⟩ hc ?_
                    obtain ⟨mi321, ml322, hc, h⟩ := h
                    refine ab_wc 3 (c := 156) (as := [.ref 40, .int 41]) (pc := 183) (ll := [some (.ref 40), some (.int x1), some (.int r3), some (.int 0), some (.int 1), none]) (st := []) (c1 := 0) (s1 := 0) (g := (ab_G mi319 ml320)) rfl ⟨trivial, trivial, trivial⟩ hc ?_
                    exact ab_wr 2 rfl ⟨trivial, trivial⟩ h
                · have h := h.2 c
                  obtain ⟨mi323, ml324, hc, h⟩ := h
                  refine ab_wc 5 (c := 166) (as := [.ref 40, .int (x1 + 1)]) (pc := 134) (ll := [some (.ref 40), some (.int x1), some (.int r3), some (.int 0), some (.int 1), none]) (st := []) (c1 := 0) (s1 := 0) (g := (ab_G mi311 ml312)) rfl ⟨trivial, trivial, trivial, trivial, trivial⟩ hc ?_
                  exact ab_wr 14 rfl ⟨trivial, trivial, trivial, trivial, trivial, trivial, trivial, trivial, trivial, trivial, trivial, trivial, trivial, trivial⟩ h
            · have h := h.2 c
              refine ab_wk 3 (f' := (if 0 < (mi10 40 8) then 117 else 118, [some (.ref 40), some (.int x1), some (.int r3), some (.int 0), some (.int 1), none], [], 0, 0, (ab_G mi10 ml11))) rfl ⟨trivial, trivial, trivial, trivial⟩ ?_
              refine ab_wi (fun c => ?_) (fun c => ?_)
              · have h := h.1 c
                exact ab_wr 1 rfl trivial h
              · have h := h.2 c
                obtain ⟨r327, mi325, ml326, hc, h⟩ := h
                refine ab_wc 3 (c := 158) (as := [.ref 40, .int 6]) (pc := 124) (ll := [some (.ref 40), some (.int x1), some (.int r3), some (.int 0), some (.int 1), none]) (st := []) (c1 := 0) (s1 := 0) (g := (ab_G mi10 ml11)) rfl ⟨trivial, trivial, trivial⟩ hc ?_
                refine ab_wk 1 (f' := (if r327 = 0 then 161 else 127, [some (.ref 40), some (.int x1), some (.int r3), some (.int 0), some (.int 1), none], [], 0, 0, (ab_G mi325 ml326))) rfl ⟨trivial, trivial⟩ ?_
                refine ab_wi (fun c => ?_) (fun c => ?_)
                · have h := h.1 c
                  obtain ⟨r330, mi328, ml329, hc, h⟩ := h
                  refine ab_wc 3 (c := 157) (as := [.ref 40, .int 40]) (pc := 167) (ll := [some (.ref 40), some (.int x1), some (.int r3), some (.int 0), some (.int 1), none]) (st := []) (c1 := 0) (s1 := 0) (g := (ab_G mi325 ml326)) rfl ⟨trivial, trivial, trivial⟩ hc ?_
                  refine ab_wk 1 (f' := (if r330 = 0 then 186 else 170, [some (.ref 40), some (.int x1), some (.int r3), some (.int 0), some (.int 1), none], [], 0, 0, (ab_G mi328 ml329))) rfl ⟨trivial, trivial⟩ ?_
                  refine ab_wi (fun c => ?_) (fun c => ?_)
                  · have h := h.1 c
                    refine ab_wk 2 (f' := (if (1 : Int32) = 0 then 198 else 191, [some (.ref 40), some (.int x1), some (.int r3), some (.int 0), some (.int 1), none], [], 0, 0, (ab_G mi328 ml329))) rfl ⟨trivial, trivial, trivial⟩ ?_
                    refine ab_wif (c := ((1 : Int32) = 0)) (by decide) ?_
                    obtain ⟨mi331, ml332, hc, h⟩ := h
                    refine ab_wc 2 (c := 168) (as := [.ref 40]) (pc := 195) (ll := [some (.ref 40), some (.int x1), some (.int r3), some (.int 0), some (.int 1), none]) (st := []) (c1 := 0) (s1 := 0) (g := (ab_G mi328 ml329)) rfl ⟨trivial, trivial⟩ hc ?_
                    exact ab_wr 2 rfl ⟨trivial, trivial⟩ h
                  · have h := h.2 c
                    obtain ⟨mi333, ml334, hc, h⟩ := h
                    refine ab_wc 5 (c := 163) (as := [.ref 40, .int (x1 + 1)]) (pc := 177) (ll := [some (.ref 40), some (.int x1), some (.int r3), some (.int 0), some (.int 1), none]) (st := []) (c1 := 0) (s1 := 0) (g := (ab_G mi328 ml329)) rfl ⟨trivial, trivial, trivial, trivial, trivial⟩ hc ?_
                    obtain ⟨mi335, ml336, hc, h⟩ := h
                    refine ab_wc 3 (c := 156) (as := [.ref 40, .int 41]) (pc := 183) (ll := [some (.ref 40), some (.int x1), some (.int r3), some (.int 0), some (.int 1), none]) (st := []) (c1 := 0) (s1 := 0) (g := (ab_G mi333 ml334)) rfl ⟨trivial, trivial, trivial⟩ hc ?_
                    exact ab_wr 2 rfl ⟨trivial, trivial⟩ h
                · have h := h.2 c
                  obtain ⟨mi337, ml338, hc, h⟩ := h
                  refine ab_wc 5 (c := 166) (as := [.ref 40, .int (x1 + 1)]) (pc := 134) (ll := [some (.ref 40), some (.int x1), some (.int r3), some (.int 0), some (.int 1), none]) (st := []) (c1 := 0) (s1 := 0) (g := (ab_G mi325 ml326)) rfl ⟨trivial, trivial, trivial, trivial, trivial⟩ hc ?_
                  exact ab_wr 14 rfl ⟨trivial, trivial, trivial, trivial, trivial, trivial, trivial, trivial, trivial, trivial, trivial, trivial, trivial, trivial⟩ h
      · have h := h.2 c
        obtain ⟨r341, mi339, ml340, hc, h⟩ := h
        refine ab_wc 6 (c := 155) (as := [.ref 40, .int 8]) (pc := 41) (ll := [some (.ref 40), some (.int x1), some (.int r3), some (.int 1), none, none]) (st := []) (c1 := 0) (s1 := 0) (g := (ab_G mi7 ml8)) rfl ⟨trivial, trivial, trivial, trivial, trivial, trivial⟩ hc ?_
        refine ab_wk 1 (f' := (if r341 = 0 then 44 else 53, [some (.ref 40), some (.int x1), some (.int r3), some (.int 1), none, none], [], 0, 0, (ab_G mi339 ml340))) rfl ⟨trivial, trivial⟩ ?_
        refine ab_wi (fun c => ?_) (fun c => ?_)
        · have h := h.1 c
          obtain ⟨r344, mi342, ml343, hc, h⟩ := h
          refine ab_wc 3 (c := 155) (as := [.ref 40, .int 9]) (pc := 50) (ll := [some (.ref 40), some (.int x1), some (.int r3), some (.int 1), none, none]) (st := []) (c1 := 0) (s1 := 0) (g := (ab_G mi339 ml340)) rfl ⟨trivial, trivial, trivial⟩ hc ?_
          refine ab_wk 1 (f' := (if r344 = 0 then 57 else 53, [some (.ref 40), some (.int x1), some (.int r3), some (.int 1), none, none], [], 0, 0, (ab_G mi342 ml343))) rfl ⟨trivial, trivial⟩ ?_
          refine ab_wi (fun c => ?_) (fun c => ?_)
          · have h := h.1 c
            refine ab_wk 4 (f' := (if r3 < 0 then 64 else 99, [some (.ref 40), some (.int x1), some (.int r3), some (.int 1), some (.int 0), none], [], 0, 0, (ab_G mi342 ml343))) rfl ⟨trivial, trivial, trivial, trivial, trivial⟩ ?_
            refine ab_wi (fun c => ?_) (fun c => ?_)
            · have h := h.1 c
              refine ab_wk 2 (f' := (if (1 : Int32) = 0 then 68 else 99, [some (.ref 40), some (.int x1), some (.int r3), some (.int 1), some (.int 0), none], [], 0, 0, (ab_G mi342 ml343))) rfl ⟨trivial, trivial, trivial⟩ ?_
              refine ab_wif (c := ((1 : Int32) = 0)) (by decide) ?_
              refine ab_wk 3 (f' := (if x1 = 6 then 105 else 110, [some (.ref 40), some (.int x1), some (.int r3), some (.int 1), some (.int 0), none], [], 0, 0, (ab_G mi342 ml343))) rfl ⟨trivial, trivial, trivial, trivial⟩ ?_
              refine ab_wi (fun c => ?_) (fun c => ?_)
              · have h := h.1 c
                obtain ⟨mi345, ml346, hc, h⟩ := h
                refine ab_wc 3 (c := 153) (as := [.ref 40, .int 5]) (pc := 110) (ll := [some (.ref 40), some (.int x1), some (.int r3), some (.int 1), some (.int 0), none]) (st := []) (c1 := 0) (s1 := 0) (g := (ab_G mi342 ml343)) rfl ⟨trivial, trivial, trivial⟩ hc ?_
                refine ab_wk 3 (f' := (if 0 < (mi345 40 8) then 117 else 118, [some (.ref 40), some (.int x1), some (.int r3), some (.int 1), some (.int 0), none], [], 0, 0, (ab_G mi345 ml346))) rfl ⟨trivial, trivial, trivial, trivial⟩ ?_
                refine ab_wi (fun c => ?_) (fun c => ?_)
                · have h := h.1 c
                  exact ab_wr 1 rfl trivial h
                · have h := h.2 c
                  obtain ⟨r349, mi347, ml348, hc, h⟩ := h
                  refine ab_wc 3 (c := 158) (as := [.ref 40, .int 6]) (pc := 124) (ll := [some (.ref 40), some (.int x1), some (.int r3), some (.int 1), some (.int 0), none]) (st := []) (c1 := 0) (s1 := 0) (g := (ab_G mi345 ml346)) rfl ⟨trivial, trivial, trivial⟩ hc ?_
                  refine ab_wk 1 (f' := (if r349 = 0 then 161 else 127, [some (.ref 40), some (.int x1), some (.int r3), some (.int 1), some (.int 0), none], [], 0, 0, (ab_G mi347 ml348))) rfl ⟨trivial, trivial⟩ ?_
                  refine ab_wi (fun c => ?_) (fun c => ?_)
                  · have h := h.1 c
                    obtain ⟨r352, mi350, ml351, hc, h⟩ := h
                    refine ab_wc 3 (c := 157) (as := [.ref 40, .int 40]) (pc := 167) (ll := [some (.ref 40), some (.int x1), some (.int r3), some (.int 1), some (.int 0), none]) (st := []) (c1 := 0) (s1 := 0) (g := (ab_G mi347 ml348)) rfl ⟨trivial, trivial, trivial⟩ hc ?_
                    refine ab_wk 1 (f' := (if r352 = 0 then 186 else 170, [some (.ref 40), some (.int x1), some (.int r3), some (.int 1), some (.int 0), none], [], 0, 0, (ab_G mi350 ml351))) rfl ⟨trivial, trivial⟩ ?_
                    refine ab_wi (fun c => ?_) (fun c => ?_)
                    · have h := h.1 c
                      refine ab_wk 2 (f' := (if (0 : Int32) = 0 then 198 else 191, [some (.ref 40), some (.int x1), some (.int r3), some (.int 1), some (.int 0), none], [], 0, 0, (ab_G mi350 ml351))) rfl ⟨trivial, trivial, trivial⟩ ?_
                      refine ab_wit (c := ((0 : Int32) = 0)) (by decide) ?_
                      obtain ⟨r355, mi353, ml354, hc, h⟩ := h
                      refine ab_wc 3 (c := 155) (as := [.ref 40, .int 5]) (pc := 203) (ll := [some (.ref 40), some (.int x1), some (.int r3), some (.int 1), some (.int 0), none]) (st := []) (c1 := 0) (s1 := 0) (g := (ab_G mi350 ml351)) rfl ⟨trivial, trivial, trivial⟩ hc ?_
                      refine ab_wk 10 (f' := (if r3 < 0 then 220 else 224, [some (.ref 40), some (.int x1), some (.int r3), some (.int 1), some (.int 0), some (.int r355)], [.ref 40], 0, 0, (ab_G (ab_ui mi353 40 7 ((mi353 40 7) + 1)) ml354))) rfl ⟨trivial, trivial, trivial, trivial, trivial, trivial, trivial, trivial, trivial, trivial, trivial⟩ ?_
                      refine ab_wi (fun c => ?_) (fun c => ?_)
                      · have h := h.1 c
                        refine ab_wk 4 (f' := (if r3 < 0 then 231 else 244, [some (.ref 40), some (.int x1), some (.int r3), some (.int 1), some (.int 0), some (.int r355)], [.int 0, .ref 40], 0, 0, (ab_G (ab_ui mi353 40 7 ((mi353 40 7) + 1)) ml354))) rfl ⟨trivial, trivial, trivial, trivial, trivial⟩ ?_
                        refine ab_wi (fun c => ?_) (fun c => ?_)
                        · have h := h.1 c
                          refine ab_wk 2 (f' := (if r355 = 0 then 240 else 236, [some (.ref 40), some (.int x1), some (.int r3), some (.int 1), some (.int 0), some (.int r355)], [.int 0, .ref 40], 0, 0, (ab_G (ab_ui mi353 40 7 ((mi353 40 7) + 1)) ml354))) rfl ⟨trivial, trivial, trivial⟩ ?_
                          refine ab_wi (fun c => ?_) (fun c => ?_)
                          · have h := h.1 c
                            obtain ⟨mi356, ml357, hc, h⟩ := h
                            refine ab_wc 4 (c := 162) (as := [.ref 40, .int 0, .int 0, .int 0]) (pc := 249) (ll := [some (.ref 40), some (.int x1), some (.int r3), some (.int 1), some (.int 0), some (.int r355)]) (st := []) (c1 := 0) (s1 := 0) (g := (ab_G (ab_ui mi353 40 7 ((mi353 40 7) + 1)) ml354)) rfl ⟨trivial, trivial, trivial, trivial⟩ hc ?_
                            exact ab_wr 1 rfl trivial h
                          · have h := h.2 c
                            obtain ⟨mi358, ml359, hc, h⟩ := h
                            refine ab_wc 4 (c := 162) (as := [.ref 40, .int 0, .int 1, .int 0]) (pc := 249) (ll := [some (.ref 40), some (.int x1), some (.int r3), some (.int 1), some (.int 0), some (.int r355)]) (st := []) (c1 := 0) (s1 := 0) (g := (ab_G (ab_ui mi353 40 7 ((mi353 40 7) + 1)) ml354)) rfl ⟨trivial, trivial, trivial, trivial⟩ hc ?_
                            exact ab_wr 1 rfl trivial h
                        · have h := h.2 c
                          obtain ⟨mi360, ml361, hc, h⟩ := h
                          refine ab_wc 3 (c := 162) (as := [.ref 40, .int 0, .int 1, .int 0]) (pc := 249) (ll := [some (.ref 40), some (.int x1), some (.int r3), some (.int 1), some (.int 0), some (.int r355)]) (st := []) (c1 := 0) (s1 := 0) (g := (ab_G (ab_ui mi353 40 7 ((mi353 40 7) + 1)) ml354)) rfl ⟨trivial, trivial, trivial⟩ hc ?_
                          exact ab_wr 1 rfl trivial h
                      · have h := h.2 c
                        refine ab_wk 5 (f' := (if r3 < 0 then 231 else 244, [some (.ref 40), some (.int x1), some (.int r3), some (.int 1), some (.int 0), some (.int r355)], [.int ((1 : Int32) <<< (r3 &&& 31)), .ref 40], 0, 0, (ab_G (ab_ui mi353 40 7 ((mi353 40 7) + 1)) ml354))) rfl ⟨trivial, trivial, trivial, trivial, trivial, trivial⟩ ?_
                        refine ab_wi (fun c => ?_) (fun c => ?_)
                        · have h := h.1 c
                          refine ab_wk 2 (f' := (if r355 = 0 then 240 else 236, [some (.ref 40), some (.int x1), some (.int r3), some (.int 1), some (.int 0), some (.int r355)], [.int ((1 : Int32) <<< (r3 &&& 31)), .ref 40], 0, 0, (ab_G (ab_ui mi353 40 7 ((mi353 40 7) + 1)) ml354))) rfl ⟨trivial, trivial, trivial⟩ ?_
                          refine ab_wi (fun c => ?_) (fun c => ?_)
                          · have h := h.1 c
                            obtain ⟨mi362, ml363, hc, h⟩ := h
                            refine ab_wc 4 (c := 162) (as := [.ref 40, .int ((1 : Int32) <<< (r3 &&& 31)), .int 0, .int 0]) (pc := 249) (ll := [some (.ref 40), some (.int x1), some (.int r3), some (.int 1), some (.int 0), some (.int r355)]) (st := []) (c1 := 0) (s1 := 0) (g := (ab_G (ab_ui mi353 40 7 ((mi353 40 7) + 1)) ml354)) rfl ⟨trivial, trivial, trivial, trivial⟩ hc ?_
                            exact ab_wr 1 rfl trivial h
                          · have h := h.2 c
                            obtain ⟨mi364, ml365, hc, h⟩ := h
                            refine ab_wc 4 (c := 162) (as := [.ref 40, .int ((1 : Int32) <<< (r3 &&& 31)), .int 1, .int 0]) (pc := 249) (ll := [some (.ref 40), some (.int x1), some (.int r3), some (.int 1), some (.int 0), some (.int r355)]) (st := []) (c1 := 0) (s1 := 0) (g := (ab_G (ab_ui mi353 40 7 ((mi353 40 7) + 1)) ml354)) rfl ⟨trivial, trivial, trivial, trivial⟩ hc ?_
                            exact ab_wr 1 rfl trivial h
                        · have h := h.2 c
                          obtain ⟨mi366, ml367, hc, h⟩ := h
                          refine ab_wc 3 (c := 162) (as := [.ref 40, .int ((1 : Int32) <<< (r3 &&& 31)), .int 1, .int 0]) (pc := 249) (ll := [some (.ref 40), some (.int x1), some (.int r3), some (.int 1), some (.int 0), some (.int r355)]) (st := []) (c1 := 0) (s1 := 0) (g := (ab_G (ab_ui mi353 40 7 ((mi353 40 7) + 1)) ml354)) rfl ⟨trivial, trivial, trivial⟩ hc ?_
                          exact ab_wr 1 rfl trivial h
                    · have h := h.2 c
                      obtain ⟨mi368, ml369, hc, h⟩ := h
                      refine ab_wc 5 (c := 163) (as := [.ref 40, .int (x1 + 1)]) (pc := 177) (ll := [some (.ref 40), some (.int x1), some (.int r3), some (.int 1), some (.int 0), none]) (st := []) (c1 := 0) (s1 := 0) (g := (ab_G mi350 ml351)) rfl ⟨trivial, trivial, trivial, trivial, trivial⟩ hc ?_
                      obtain ⟨mi370, ml371, hc, h⟩ := h
                      refine ab_wc 3 (c := 156) (as := [.ref 40, .int 41]) (pc := 183) (ll := [some (.ref 40), some (.int x1), some (.int r3), some (.int 1), some (.int 0), none]) (st := []) (c1 := 0) (s1 := 0) (g := (ab_G mi368 ml369)) rfl ⟨trivial, trivial, trivial⟩ hc ?_
                      exact ab_wr 2 rfl ⟨trivial, trivial⟩ h
                  · have h := h.2 c
                    obtain ⟨mi372, ml373, hc, h⟩ := h
                    refine ab_wc 5 (c := 166) (as := [.ref 40, .int (x1 + 1)]) (pc := 134) (ll := [some (.ref 40), some (.int x1), some (.int r3), some (.int 1), some (.int 0), none]) (st := []) (c1 := 0) (s1 := 0) (g := (ab_G mi347 ml348)) rfl ⟨trivial, trivial, trivial, trivial, trivial⟩ hc ?_
                    exact ab_wr 14 rfl ⟨trivial, trivial, trivial, trivial, trivial, trivial, trivial, trivial, trivial, trivial, trivial, trivial, trivial, trivial⟩ h
              · have h := h.2 c
                refine ab_wk 3 (f' := (if 0 < (mi342 40 8) then 117 else 118, [some (.ref 40), some (.int x1), some (.int r3), some (.int 1), some (.int 0), none], [], 0, 0, (ab_G mi342 ml343))) rfl ⟨trivial, trivial, trivial, trivial⟩ ?_
                refine ab_wi (fun c => ?_) (fun c => ?_)
                · have h := h.1 c
                  exact ab_wr 1 rfl trivial h
                · have h := h.2 c
                  obtain ⟨r376, mi374, ml375, hc, h⟩ := h
                  refine ab_wc 3 (c := 158) (as := [.ref 40, .int 6]) (pc := 124) (ll := [some (.ref 40), some (.int x1), some (.int r3), some (.int 1), some (.int 0), none]) (st := []) (c1 := 0) (s1 := 0) (g := (ab_G mi342 ml343)) rfl ⟨trivial, trivial, trivial⟩ hc ?_
                  refine ab_wk 1 (f' := (if r376 = 0 then 161 else 127, [some (.ref 40), some (.int x1), some (.int r3), some (.int 1), some (.int 0), none], [], 0, 0, (ab_G mi374 ml375))) rfl ⟨trivial, trivial⟩ ?_
                  refine ab_wi (fun c => ?_) (fun c => ?_)
                  · have h := h.1 c
                    obtain ⟨r379, mi377, ml378, hc, h⟩ := h
                    refine ab_wc 3 (c := 157) (as := [.ref 40, .int 40]) (pc := 167) (ll := [some (.ref 40), some (.int x1), some (.int r3), some (.int 1), some (.int 0), none]) (st := []) (c1 := 0) (s1 := 0) (g := (ab_G mi374 ml375)) rfl ⟨trivial, trivial, trivial⟩ hc ?_
                    refine ab_wk 1 (f' := (if r379 = 0 then 186 else 170, [some (.ref 40), some (.int x1), some (.int r3), some (.int 1), some (.int 0), none], [], 0, 0, (ab_G mi377 ml378))) rfl ⟨trivial, trivial⟩ ?_
                    refine ab_wi (fun c => ?_) (fun c => ?_)
                    · have h := h.1 c
                      refine ab_wk 2 (f' := (if (0 : Int32) = 0 then 198 else 191, [some (.ref 40), some (.int x1), some (.int r3), some (.int 1), some (.int 0), none], [], 0, 0, (ab_G mi377 ml378))) rfl ⟨trivial, trivial, trivial⟩ ?_
                      refine ab_wit (c := ((0 : Int32) = 0)) (by decide) ?_
                      obtain ⟨r382, mi380, ml381, hc, h⟩ := h
                      refine ab_wc 3 (c := 155) (as := [.ref 40, .int 5]) (pc := 203) (ll := [some (.ref 40), some (.int x1), some (.int r3), some (.int 1), some (.int 0), none]) (st := []) (c1 := 0) (s1 := 0) (g := (ab_G mi377 ml378)) rfl ⟨trivial, trivial, trivial⟩ hc ?_
                      refine ab_wk 10 (f' := (if r3 < 0 then 220 else 224, [some (.ref 40), some (.int x1), some (.int r3), some (.int 1), some (.int 0), some (.int r382)], [.ref 40], 0, 0, (ab_G (ab_ui mi380 40 7 ((mi380 40 7) + 1)) ml381))) rfl ⟨trivial, trivial, trivial, trivial, trivial, trivial, trivial, trivial, trivial, trivial, trivial⟩ ?_
                      refine ab_wi (fun c => ?_) (fun c => ?_)
                      · have h := h.1 c
                        refine ab_wk 4 (f' := (if r3 < 0 then 231 else 244, [some (.ref 40), some (.int x1), some (.int r3), some (.int 1), some (.int 0), some (.int r382)], [.int 0, .ref 40], 0, 0, (ab_G (ab_ui mi380 40 7 ((mi380 40 7) + 1)) ml381))) rfl ⟨trivial, trivial, trivial, trivial, trivial⟩ ?_
                        refine ab_wi (fun c => ?_) (fun c => ?_)
                        · have h := h.1 c
                          refine ab_wk 2 (f' := (if r382 = 0 then 240 else 236, [some (.ref 40), some (.int x1), some (.int r3), some (.int 1), some (.int 0), some (.int r382)], [.int 0, .ref 40], 0, 0, (ab_G (ab_ui mi380 40 7 ((mi380 40 7) + 1)) ml381))) rfl ⟨trivial, trivial, trivial⟩ ?_
                          refine ab_wi (fun c => ?_) (fun c => ?_)
                          · have h := h.1 c
                            obtain ⟨mi383, ml384, hc, h⟩ := h
                            refine ab_wc 4 (c := 162) (as := [.ref 40, .int 0, .int 0, .int 0]) (pc := 249) (ll := [some (.ref 40), some (.int x1), some (.int r3), some (.int 1), some (.int 0), some (.int r382)]) (st := []) (c1 := 0) (s1 := 0) (g := (ab_G (ab_ui mi380 40 7 ((mi380 40 7) + 1)) ml381)) rfl ⟨trivial, trivial, trivial, trivial⟩ hc ?_
                            exact ab_wr 1 rfl trivial h
                          · have h := h.2 c
                            obtain ⟨mi385, ml386, hc, h⟩ := h
                            refine ab_wc 4 (c := 162) (as := [.ref 40, .int 0, .int 1, .int 0]) (pc := 249) (ll := [some (.ref 40), some (.int x1), some (.int r3), some (.int 1), some (.int 0), some (.int r382)]) (st := []) (c1 := 0) (s1 := 0) (g := (ab_G (ab_ui mi380 40 7 ((mi380 40 7) + 1)) ml381)) rfl ⟨trivial, trivial, trivial, trivial⟩ hc ?_
                            exact ab_wr 1 rfl trivial h
                        · have h := h.2 c
                          obtain ⟨mi387, ml388, hc, h⟩ := h
                          refine ab_wc 3 (c := 162) (as := [.ref 40, .int 0, .int 1, .int 0]) (pc := 249) (ll := [some (.ref 40), some (.int x1), some (.int r3), some (.int 1), some (.int 0), some (.int r382)]) (st := []) (c1 := 0) (s1 := 0) (g := (ab_G (ab_ui mi380 40 7 ((mi380 40 7) + 1)) ml381)) rfl ⟨trivial, trivial, trivial⟩ hc ?_
                          exact ab_wr 1 rfl trivial h
                      · have h := h.2 c
                        refine ab_wk 5 (f' := (if r3 < 0 then 231 else 244, [some (.ref 40), some (.int x1), some (.int r3), some (.int 1), some (.int 0), some (.int r382)], [.int ((1 : Int32) <<< (r3 &&& 31)), .ref 40], 0, 0, (ab_G (ab_ui mi380 40 7 ((mi380 40 7) + 1)) ml381))) rfl ⟨trivial, trivial, trivial, trivial, trivial, trivial⟩ ?_
                        refine ab_wi (fun c => ?_) (fun c => ?_)
                        · have h := h.1 c
                          refine ab_wk 2 (f' := (if r382 = 0 then 240 else 236, [some (.ref 40), some (.int x1), some (.int r3), some (.int 1), some (.int 0), some (.int r382)], [.int ((1 : Int32) <<< (r3 &&& 31)), .ref 40], 0, 0, (ab_G (ab_ui mi380 40 7 ((mi380 40 7) + 1)) ml381))) rfl ⟨trivial, trivial, trivial⟩ ?_
                          refine ab_wi (fun c => ?_) (fun c => ?_)
                          · have h := h.1 c
                            obtain ⟨mi389, ml390, hc, h⟩ := h
                            refine ab_wc 4 (c := 162) (as := [.ref 40, .int ((1 : Int32) <<< (r3 &&& 31)), .int 0, .int 0]) (pc := 249) (ll := [some (.ref 40), some (.int x1), some (.int r3), some (.int 1), some (.int 0), some (.int r382)]) (st := []) (c1 := 0) (s1 := 0) (g := (ab_G (ab_ui mi380 40 7 ((mi380 40 7) + 1)) ml381)) rfl ⟨trivial, trivial, trivial, trivial⟩ hc ?_
                            exact ab_wr 1 rfl trivial h
                          · have h := h.2 c
                            obtain ⟨mi391, ml392, hc, h⟩ := h
                            refine ab_wc 4 (c := 162) (as := [.ref 40, .int ((1 : Int32) <<< (r3 &&& 31)), .int 1, .int 0]) (pc := 249) (ll := [some (.ref 40), some (.int x1), some (.int r3), some (.int 1), some (.int 0), some (.int r382)]) (st := []) (c1 := 0) (s1 := 0) (g := (ab_G (ab_ui mi380 40 7 ((mi380 40 7) + 1)) ml381)) rfl ⟨trivial, trivial, trivial, trivial⟩ hc ?_
                            exact ab_wr 1 rfl trivial h
                        · have h := h.2 c
                          obtain ⟨mi393, ml394, hc, h⟩ := h
                          refine ab_wc 3 (c := 162) (as := [.ref 40, .int ((1 : Int32) <<< (r3 &&& 31)), .int 1, .int 0]) (pc := 249) (ll := [some (.ref 40), some (.int x1), some (.int r3), some (.int 1), some (.int 0), some (.int r382)]) (st := []) (c1 := 0) (s1 := 0) (g := (ab_G (ab_ui mi380 40 7 ((mi380 40 7) + 1)) ml381)) rfl ⟨trivial, trivial, trivial⟩ hc ?_
                          exact ab_wr 1 rfl trivial h
                    · have h := h.2 c
                      obtain ⟨mi395, ml396, hc, h⟩ := h
                      refine ab_wc 5 (c := 163) (as := [.ref 40, .int (x1 + 1)]) (pc := 177) (ll := [some (.ref 40), some (.int x1), some (.int r3), some (.int 1), some (.int 0), none]) (st := []) (c1 := 0) (s1 := 0) (g := (ab_G mi377 ml378)) rfl ⟨trivial, trivial, trivial, trivial, trivial⟩ hc ?_
                      obtain ⟨mi397, ml398, hc, h⟩ := h
                      refine ab_wc 3 (c := 156) (as := [.ref 40, .int 41]) (pc := 183) (ll := [some (.ref 40), some (.int x1), some (.int r3), some (.int 1), some (.int 0), none]) (st := []) (c1 := 0) (s1 := 0) (g := (ab_G mi395 ml396)) rfl ⟨trivial, trivial, trivial⟩ hc ?_
                      exact ab_wr 2 rfl ⟨trivial, trivial⟩ h
                  · have h := h.2 c
                    obtain ⟨mi399, ml400, hc, h⟩ := h
                    refine ab_wc 5 (c := 166) (as := [.ref 40, .int (x1 + 1)]) (pc := 134) (ll := [some (.ref 40), some (.int x1), some (.int r3), some (.int 1), some (.int 0), none]) (st := []) (c1 := 0) (s1 := 0) (g := (ab_G mi374 ml375)) rfl ⟨trivial, trivial, trivial, trivial, trivial⟩ hc ?_
                    exact ab_wr 14 rfl ⟨trivial, trivial, trivial, trivial, trivial, trivial, trivial, trivial, trivial, trivial, trivial, trivial, trivial, trivial⟩ h
            · have h := h.2 c
              refine ab_wk 3 (f' := (if x1 = 6 then 105 else 110, [some (.ref 40), some (.int x1), some (.int r3), some (.int 1), some (.int 0), none], [], 0, 0, (ab_G mi342 ml343))) rfl ⟨trivial, trivial, trivial, trivial⟩ ?_
              refine ab_wi (fun c => ?_) (fun c => ?_)
              · have h := h.1 c
                obtain ⟨mi401, ml402, hc, h⟩ := h
                refine ab_wc 3 (c := 153) (as := [.ref 40, .int 5]) (pc := 110) (ll := [some (.ref 40), some (.int x1), some (.int r3), some (.int 1), some (.int 0), none]) (st := []) (c1 := 0) (s1 := 0) (g := (ab_G mi342 ml343)) rfl ⟨trivial, trivial, trivial⟩ hc ?_
                refine ab_wk 3 (f' := (if 0 < (mi401 40 8) then 117 else 118, [some (.ref 40), some (.int x1), some (.int r3), some (.int 1), some (.int 0), none], [], 0, 0, (ab_G mi401 ml402))) rfl ⟨trivial, trivial, trivial, trivial⟩ ?_
                refine ab_wi (fun c => ?_) (fun c => ?_)
                · have h := h.1 c
                  exact ab_wr 1 rfl trivial h
                · have h := h.2 c
                  obtain ⟨r405, mi403, ml404, hc, h⟩ := h
                  refine ab_wc 3 (c := 158) (as := [.ref 40, .int 6]) (pc := 124) (ll := [some (.ref 40), some (.int x1), some (.int r3), some (.int 1), some (.int 0), none]) (st := []) (c1 := 0) (s1 := 0) (g := (ab_G mi401 ml402)) rfl ⟨trivial, trivial, trivial⟩ hc ?_
                  refine ab_wk 1 (f' := (if r405 = 0 then 161 else 127, [some (.ref 40), some (.int x1), some (.int r3), some (.int 1), some (.int 0), none], [], 0, 0, (ab_G mi403 ml404))) rfl ⟨trivial, trivial⟩ ?_
                  refine ab_wi (fun c => ?_) (fun c => ?_)
                  · have h := h.1 c
                    obtain ⟨r408, mi406, ml407, hc, h⟩ := h
                    refine ab_wc 3 (c := 157) (as := [.ref 40, .int 40]) (pc := 167) (ll := [some (.ref 40), some (.int x1), some (.int r3), some (.int 1), some (.int 0), none]) (st := []) (c1 := 0) (s1 := 0) (g := (ab_G mi403 ml404)) rfl ⟨trivial, trivial, trivial⟩ hc ?_
                    refine ab_wk 1 (f' := (if r408 = 0 then 186 else 170, [some (.ref 40), some (.int x1), some (.int r3), some (.int 1), some (.int 0), none], [], 0, 0, (ab_G mi406 ml407))) rfl ⟨trivial, trivial⟩ ?_
                    refine ab_wi (fun c => ?_) (fun c => ?_)
                    · have h := h.1 c
                      refine ab_wk 2 (f' := (if (0 : Int32) = 0 then 198 else 191, [some (.ref 40), some (.int x1), some (.int r3), some (.int 1), some (.int 0), none], [], 0, 0, (ab_G mi406 ml407))) rfl ⟨trivial, trivial, trivial⟩ ?_
                      refine ab_wit (c := ((0 : Int32) = 0)) (by decide) ?_
                      obtain ⟨r411, mi409, ml410, hc, h⟩ := h
                      refine ab_wc 3 (c := 155) (as := [.ref 40, .int 5]) (pc := 203) (ll := [some (.ref 40), some (.int x1), some (.int r3), some (.int 1), some (.int 0), none]) (st := []) (c1 := 0) (s1 := 0) (g := (ab_G mi406 ml407)) rfl ⟨trivial, trivial, trivial⟩ hc ?_
                      refine ab_wk 10 (f' := (if r3 < 0 then 220 else 224, [some (.ref 40), some (.int x1), some (.int r3), some (.int 1), some (.int 0), some (.int r411)], [.ref 40], 0, 0, (ab_G (ab_ui mi409 40 7 ((mi409 40 7) + 1)) ml410))) rfl ⟨trivial, trivial, trivial, trivial, trivial, trivial, trivial, trivial, trivial, trivial, trivial⟩ ?_
                      refine ab_wi (fun c => ?_) (fun c => ?_)
                      · have h := h.1 c
                        refine ab_wk 4 (f' := (if r3 < 0 then 231 else 244, [some (.ref 40), some (.int x1), some (.int r3), some (.int 1), some (.int 0), some (.int r411)], [.int 0, .ref 40], 0, 0, (ab_G (ab_ui mi409 40 7 ((mi409 40 7) + 1)) ml410))) rfl ⟨trivial, trivial, trivial, trivial, trivial⟩ ?_
                        refine ab_wi (fun c => ?_) (fun c => ?_)
                        · have h := h.1 c
                          refine ab_wk 2 (f' := (if r411 = 0 then 240 else 236, [some (.ref 40), some (.int x1), some (.int r3), some (.int 1), some (.int 0), some (.int r411)], [.int 0, .ref 40], 0, 0, (ab_G (ab_ui mi409 40 7 ((mi409 40 7) + 1)) ml410))) rfl ⟨trivial, trivial, trivial⟩ ?_
                          refine ab_wi (fun c => ?_) (fun c => ?_)
                          · have h := h.1 c
                            obtain ⟨mi412, ml413, hc, h⟩ := h
                            refine ab_wc 4 (c := 162) (as := [.ref 40, .int 0, .int 0, .int 0]) (pc := 249) (ll := [some (.ref 40), some (.int x1), some (.int r3), some (.int 1), some (.int 0), some (.int r411)]) (st := []) (c1 := 0) (s1 := 0) (g := (ab_G (ab_ui mi409 40 7 ((mi409 40 7) + 1)) ml410)) rfl ⟨trivial, trivial, trivial, trivial⟩ hc ?_
                            exact ab_wr 1 rfl trivial h
                          · have h := h.2 c
                            obtain ⟨mi414, ml415, hc, h⟩ := h
                            refine ab_wc 4 (c := 162) (as := [.ref 40, .int 0, .int 1, .int 0]) (pc := 249) (ll := [some (.ref 40), some (.int x1), some (.int r3), some (.int 1), some (.int 0), some (.int r411)]) (st := []) (c1 := 0) (s1 := 0) (g := (ab_G (ab_ui mi409 40 7 ((mi409 40 7) + 1)) ml410)) rfl ⟨trivial, trivial, trivial, trivial⟩ hc ?_
                            exact ab_wr 1 rfl trivial h
                        · have h := h.2 c
                          obtain ⟨mi416, ml417, hc, h⟩ := h
                          refine ab_wc 3 (c := 162) (as := [.ref 40, .int 0, .int 1, .int 0]) (pc := 249) (ll := [some (.ref 40), some (.int x1), some (.int r3), some (.int 1), some (.int 0), some (.int r411)]) (st := []) (c1 := 0) (s1 := 0) (g := (ab_G (ab_ui mi409 40 7 ((mi409 40 7) + 1)) ml410)) rfl ⟨trivial, trivial, trivial⟩ hc ?_
                          exact ab_wr 1 rfl trivial h
                      · have h := h.2 c
                        refine ab_wk 5 (f' := (if r3 < 0 then 231 else 244, [some (.ref 40), some (.int x1), some (.int r3), some (.int 1), some (.int 0), some (.int r411)], [.int ((1 : Int32) <<< (r3 &&& 31)), .ref 40], 0, 0, (ab_G (ab_ui mi409 40 7 ((mi409 40 7) + 1)) ml410))) rfl ⟨trivial, trivial, trivial, trivial, trivial, trivial⟩ ?_
                        refine ab_wi (fun c => ?_) (fun c => ?_)
                        · have h := h.1 c
                          refine ab_wk 2 (f' := (if r411 = 0 then 240 else 236, [some (.ref 40), some (.int x1), some (.int r3), some (.int 1), some (.int 0), some (.int r411)], [.int ((1 : Int32) <<< (r3 &&& 31)), .ref 40], 0, 0, (ab_G (ab_ui mi409 40 7 ((mi409 40 7) + 1)) ml410))) rfl ⟨trivial, trivial, trivial⟩ ?_
                          refine ab_wi (fun c => ?_) (fun c => ?_)
                          · have h := h.1 c
                            obtain ⟨mi418, ml419, hc, h⟩ := h
                            refine ab_wc 4 (c := 162) (as := [.ref 40, .int ((1 : Int32) <<< (r3 &&& 31)), .int 0, .int 0]) (pc := 249) (ll := [some (.ref 40), some (.int x1), some (.int r3), some (.int 1), some (.int 0), some (.int r411)]) (st := []) (c1 := 0) (s1 := 0) (g := (ab_G (ab_ui mi409 40 7 ((mi409 40 7) + 1)) ml410)) rfl ⟨trivial, trivial, trivial, trivial⟩ hc ?_
                            exact ab_wr 1 rfl trivial h
                          · have h := h.2 c
                            obtain ⟨mi420, ml421, hc, h⟩ := h
                            refine ab_wc 4 (c := 162) (as := [.ref 40, .int ((1 : Int32) <<< (r3 &&& 31)), .int 1, .int 0]) (pc := 249) (ll := [some (.ref 40), some (.int x1), some (.int r3), some (.int 1), some (.int 0), some (.int r411)]) (st := []) (c1 := 0) (s1 := 0) (g := (ab_G (ab_ui mi409 40 7 ((mi409 40 7) + 1)) ml410)) rfl ⟨trivial, trivial, trivial, trivial⟩ hc ?_
                            exact ab_wr 1 rfl trivial h
                        · have h := h.2 c
                          obtain ⟨mi422, ml423, hc, h⟩ := h
                          refine ab_wc 3 (c := 162) (as := [.ref 40, .int ((1 : Int32) <<< (r3 &&& 31)), .int 1, .int 0]) (pc := 249) (ll := [some (.ref 40), some (.int x1), some (.int r3), some (.int 1), some (.int 0), some (.int r411)]) (st := []) (c1 := 0) (s1 := 0) (g := (ab_G (ab_ui mi409 40 7 ((mi409 40 7) + 1)) ml410)) rfl ⟨trivial, trivial, trivial⟩ hc ?_
                          exact ab_wr 1 rfl trivial h
                    · have h := h.2 c
                      obtain ⟨mi424, ml425, hc, h⟩ := h
                      refine ab_wc 5 (c := 163) (as := [.ref 40, .int (x1 + 1)]) (pc := 177) (ll := [some (.ref 40), some (.int x1), some (.int r3), some (.int 1), some (.int 0), none]) (st := []) (c1 := 0) (s1 := 0) (g := (ab_G mi406 ml407)) rfl ⟨trivial, trivial, trivial, trivial, trivial⟩ hc ?_
                      obtain ⟨mi426, ml427, hc, h⟩ := h
                      refine ab_wc 3 (c := 156) (as := [.ref 40, .int 41]) (pc := 183) (ll := [some (.ref 40), some (.int x1), some (.int r3), some (.int 1), some (.int 0), none]) (st := []) (c1 := 0) (s1 := 0) (g := (ab_G mi424 ml425)) rfl ⟨trivial, trivial, trivial⟩ hc ?_
                      exact ab_wr 2 rfl ⟨trivial, trivial⟩ h
                  · have h := h.2 c
                    obtain ⟨mi428, ml429, hc, h⟩ := h
                    refine ab_wc 5 (c := 166) (as := [.ref 40, .int (x1 + 1)]) (pc := 134) (ll := [some (.ref 40), some (.int x1), some (.int r3), some (.int 1), some (.int 0), none]) (st := []) (c1 := 0) (s1 := 0) (g := (ab_G mi403 ml404)) rfl ⟨trivial, trivial, trivial, trivial, trivial⟩ hc ?_
                    exact ab_wr 14 rfl ⟨trivial, trivial, trivial, trivial, trivial, trivial, trivial, trivial, trivial, trivial, trivial, trivial, trivial, trivial⟩ h
              · have h := h.2 c
                refine ab_wk 3 (f' := (if 0 < (mi342 40 8) then 117 else 118, [some (.ref 40), some (.int x1), some (.int r3), some (.int 1), some (.int 0), none], [], 0, 0, (ab_G mi342 ml343))) rfl ⟨trivial, trivial, trivial, trivial⟩ ?_
                refine ab_wi (fun c => ?_) (fun c => ?_)
                · have h := h.1 c
                  exact ab_wr 1 rfl trivial h
                · have h := h.2 c
                  obtain ⟨r432, mi430, ml431, hc, h⟩ := h
                  refine ab_wc 3 (c := 158) (as := [.ref 40, .int 6]) (pc := 124) (ll := [some (.ref 40), some (.int x1), some (.int r3), some (.int 1), some (.int 0), none]) (st := []) (c1 := 0) (s1 := 0) (g := (ab_G mi342 ml343)) rfl ⟨trivial, trivial, trivial⟩ hc ?_
                  refine ab_wk 1 (f' := (if r432 = 0 then 161 else 127, [some (.ref 40), some (.int x1), some (.int r3), some (.int 1), some (.int 0), none], [], 0, 0, (ab_G mi430 ml431))) rfl ⟨trivial, trivial⟩ ?_
                  refine ab_wi (fun c => ?_) (fun c => ?_)
                  · have h := h.1 c
                    obtain ⟨r435, mi433, ml434, hc, h⟩ := h
                    refine ab_wc 3 (c := 157) (as := [.ref 40, .int 40]) (pc := 167) (ll := [some (.ref 40), some (.int x1), some (.int r3), some (.int 1), some (.int 0), none]) (st := []) (c1 := 0) (s1 := 0) (g := (ab_G mi430 ml431)) rfl ⟨trivial, trivial, trivial⟩ hc ?_
                    refine ab_wk 1 (f' := (if r435 = 0 then 186 else 170, [some (.ref 40), some (.int x1), some (.int r3), some (.int 1), some (.int 0), none], [], 0, 0, (ab_G mi433 ml434))) rfl ⟨trivial, trivial⟩ ?_
                    refine ab_wi (fun c => ?_) (fun c => ?_)
                    · have h := h.1 c
                      refine ab_wk 2 (f' := (if (0 : Int32) = 0 then 198 else 191, [some (.ref 40), some (.int x1), some (.int r3), some (.int 1), some (.int 0), none], [], 0, 0, (ab_G mi433 ml434))) rfl ⟨trivial, trivial, trivial⟩ ?_
                      refine ab_wit (c := ((0 : Int32) = 0)) (by decide) ?_
                      obtain ⟨r438, mi436, ml437, hc, h⟩ := h
                      refine ab_wc 3 (c := 155) (as := [.ref 40, .int 5]) (pc := 203) (ll := [some (.ref 40), some (.int x1), some (.int r3), some (.int 1), some (.int 0), none]) (st := []) (c1 := 0) (s1 := 0) (g := (ab_G mi433 ml434)) rfl ⟨trivial, trivial, trivial⟩ hc ?_
                      refine ab_wk 10 (f' := (if r3 < 0 then 220 else 224, [some (.ref 40), some (.int x1), some (.int r3), some (.int 1), some (.int 0), some (.int r438)], [.ref 40], 0, 0, (ab_G (ab_ui mi436 40 7 ((mi436 40 7) + 1)) ml437))) rfl ⟨trivial, trivial, trivial, trivial, trivial, trivial, trivial, trivial, trivial, trivial, trivial⟩ ?_
                      refine ab_wi (fun c => ?_) (fun c => ?_)
                      · have h := h.1 c
                        refine ab_wk 4 (f' := (if r3 < 0 then 231 else 244, [some (.ref 40), some (.int x1), some (.int r3), some (.int 1), some (.int 0), some (.int r438)], [.int 0, .ref 40], 0, 0, (ab_G (ab_ui mi436 40 7 ((mi436 40 7) + 1)) ml437))) rfl ⟨trivial, trivial, trivial, trivial, trivial⟩ ?_
                        refine ab_wi (fun c => ?_) (fun c => ?_)
                        · have h := h.1 c
                          refine ab_wk 2 (f' := (if r438 = 0 then 240 else 236, [some (.ref 40), some (.int x1), some (.int r3), some (.int 1), some (.int 0), some (.int r438)], [.int 0, .ref 40], 0, 0, (ab_G (ab_ui mi436 40 7 ((mi436 40 7) + 1)) ml437))) rfl ⟨trivial, trivial, trivial⟩ ?_
                          refine ab_wi (fun c => ?_) (fun c => ?_)
                          · have h := h.1 c
                            obtain ⟨mi439, ml440, hc, h⟩ := h
                            refine ab_wc 4 (c := 162) (as := [.ref 40, .int 0, .int 0, .int 0]) (pc := 249) (ll := [some (.ref 40), some (.int x1), some (.int r3), some (.int 1), some (.int 0), some (.int r438)]) (st := []) (c1 := 0) (s1 := 0) (g := (ab_G (ab_ui mi436 40 7 ((mi436 40 7) + 1)) ml437)) rfl ⟨trivial, trivial, trivial, trivial⟩ hc ?_
                            exact ab_wr 1 rfl trivial h
                          · have h := h.2 c
                            obtain ⟨mi441, ml442, hc, h⟩ := h
                            refine ab_wc 4 (c := 162) (as := [.ref 40, .int 0, .int 1, .int 0]) (pc := 249) (ll := [some (.ref 40), some (.int x1), some (.int r3), some (.int 1), some (.int 0), some (.int r438)]) (st := []) (c1 := 0) (s1 := 0) (g := (ab_G (ab_ui mi436 40 7 ((mi436 40 7) + 1)) ml437)) rfl ⟨trivial, trivial, trivial, trivial⟩ hc ?_
                            exact ab_wr 1 rfl trivial h
                        · have h := h.2 c
                          obtain ⟨mi443, ml444, hc, h⟩ := h
                          refine ab_wc 3 (c := 162) (as := [.ref 40, .int 0, .int 1, .int 0]) (pc := 249) (ll := [some (.ref 40), some (.int x1), some (.int r3), some (.int 1), some (.int 0), some (.int r438)]) (st := []) (c1 := 0) (s1 := 0) (g := (ab_G (ab_ui mi436 40 7 ((mi436 40 7) + 1)) ml437)) rfl ⟨trivial, trivial, trivial⟩ hc ?_
                          exact ab_wr 1 rfl trivial h
                      · have h := h.2 c
                        refine ab_wk 5 (f' := (if r3 < 0 then 231 else 244, [some (.ref 40), some (.int x1), some (.int r3), some (.int 1), some (.int 0), some (.int r438)], [.int ((1 : Int32) <<< (r3 &&& 31)), .ref 40], 0, 0, (ab_G (ab_ui mi436 40 7 ((mi436 40 7) + 1)) ml437))) rfl ⟨trivial, trivial, trivial, trivial, trivial, trivial⟩ ?_
                        refine ab_wi (fun c => ?_) (fun c => ?_)
                        · have h := h.1 c
                          refine ab_wk 2 (f' := (if r438 = 0 then 240 else 236, [some (.ref 40), some (.int x1), some (.int r3), some (.int 1), some (.int 0), some (.int r438)], [.int ((1 : Int32) <<< (r3 &&& 31)), .ref 40], 0, 0, (ab_G (ab_ui mi436 40 7 ((mi436 40 7) + 1)) ml437))) rfl ⟨trivial, trivial, trivial⟩ ?_
                          refine ab_wi (fun c => ?_) (fun c => ?_)
                          · have h := h.1 c
                            obtain ⟨mi445, ml446, hc, h⟩ := h
                            refine ab_wc 4 (c := 162) (as := [.ref 40, .int ((1 : Int32) <<< (r3 &&& 31)), .int 0, .int 0]) (pc := 249) (ll := [some (.ref 40), some (.int x1), some (.int r3), some (.int 1), some (.int 0), some (.int r438)]) (st := []) (c1 := 0) (s1 := 0) (g := (ab_G (ab_ui mi436 40 7 ((mi436 40 7) + 1)) ml437)) rfl ⟨trivial, trivial, trivial, trivial⟩ hc ?_
                            exact ab_wr 1 rfl trivial h
                          · have h := h.2 c
                            obtain ⟨mi447, ml448, hc, h⟩ := h
                            refine ab_wc 4 (c := 162) (as := [.ref 40, .int ((1 : Int32) <<< (r3 &&& 31)), .int 1, .int 0]) (pc := 249) (ll := [some (.ref 40), some (.int x1), some (.int r3), some (.int 1), some (.int 0), some (.int r438)]) (st := []) (c1 := 0) (s1 := 0) (g := (ab_G (ab_ui mi436 40 7 ((mi436 40 7) + 1)) ml437)) rfl ⟨trivial, trivial, trivial, trivial⟩ hc ?_
                            exact ab_wr 1 rfl trivial h
                        · have h := h.2 c
                          obtain ⟨mi449, ml450, hc, h⟩ := h
                          refine ab_wc 3 (c := 162) (as := [.ref 40, .int ((1 : Int32) <<< (r3 &&& 31)), .int 1, .int 0]) (pc := 249) (ll := [some (.ref 40), some (.int x1), some (.int r3), some (.int 1), some (.int 0), some (.int r438)]) (st := []) (c1 := 0) (s1 := 0) (g := (ab_G (ab_ui mi436 40 7 ((mi436 40 7) + 1)) ml437)) rfl ⟨trivial, trivial, trivial⟩ hc ?_
                          exact ab_wr 1 rfl trivial h
                    · have h := h.2 c
                      obtain ⟨mi451, ml452, hc, h⟩ := h
                      refine ab_wc 5 (c := 163) (as := [.ref 40, .int (x1 + 1)]) (pc := 177) (ll := [some (.ref 40), some (.int x1), some (.int r3), some (.int 1), some (.int 0), none]) (st := []) (c1 := 0) (s1 := 0) (g := (ab_G mi433 ml434)) rfl ⟨trivial, trivial, trivial, trivial, trivial⟩ hc ?_
                      obtain ⟨mi453, ml454, hc, h⟩ := h
                      refine ab_wc 3 (c := 156) (as := [.ref 40, .int 41]) (pc := 183) (ll := [some (.ref 40), some (.int x1), some (.int r3), some (.int 1), some (.int 0), none]) (st := []) (c1 := 0) (s1 := 0) (g := (ab_G mi451 ml452)) rfl ⟨trivial, trivial, trivial⟩ hc ?_
                      exact ab_wr 2 rfl ⟨trivial, trivial⟩ h
                  · have h := h.2 c
                    obtain ⟨mi455, ml456, hc, h⟩ := h
                    refine ab_wc 5 (c := 166) (as := [.ref 40, .int (x1 + 1)]) (pc := 134) (ll := [some (.ref 40), some (.int x1), some (.int r3), some (.int 1), some (.int 0), none]) (st := []) (c1 := 0) (s1 := 0) (g := (ab_G mi430 ml431)) rfl ⟨trivial, trivial, trivial, trivial, trivial⟩ hc ?_
                    exact ab_wr 14 rfl ⟨trivial, trivial, trivial, trivial, trivial, trivial, trivial, trivial, trivial, trivial, trivial, trivial, trivial, trivial⟩ h
          · have h := h.2 c
            refine ab_wk 5 (f' := (if r3 < 0 then 64 else 99, [some (.ref 40), some (.int x1), some (.int r3), some (.int 1), some (.int 1), none], [], 0, 0, (ab_G mi342 ml343))) rfl ⟨trivial, trivial, trivial, trivial, trivial, trivial⟩ ?_
            refine ab_wi (fun c => ?_) (fun c => ?_)
            · have h := h.1 c
              refine ab_wk 2 (f' := (if (1 : Int32) = 0 then 68 else 99, [some (.ref 40), some (.int x1), some (.int r3), some (.int 1), some (.int 1), none], [], 0, 0, (ab_G mi342 ml343))) rfl ⟨trivial, trivial, trivial⟩ ?_
              refine ab_wif (c := ((1 : Int32) = 0)) (by decide) ?_
              refine ab_wk 3 (f' := (if x1 = 6 then 105 else 110, [some (.ref 40), some (.int x1), some (.int r3), some (.int 1), some (.int 1), none], [], 0, 0, (ab_G mi342 ml343))) rfl ⟨trivial, trivial, trivial, trivial⟩ ?_
              refine ab_wi (fun c => ?_) (fun c => ?_)
              · have h := h.1 c
                obtain ⟨mi457, ml458, hc, h⟩ := h
                refine ab_wc 3 (c := 153) (as := [.ref 40, .int 5]) (pc := 110) (ll := [some (.ref 40), some (.int x1), some (.int r3), some (.int 1), some (.int 1), none]) (st := []) (c1 := 0) (s1 := 0) (g := (ab_G mi342 ml343)) rfl ⟨trivial, trivial, trivial⟩ hc ?_
                refine ab_wk 3 (f' := (if 0 < (mi457 40 8) then 117 else 118, [some (.ref 40), some (.int x1), some (.int r3), some (.int 1), some (.int 1), none], [], 0, 0, (ab_G mi457 ml458))) rfl ⟨trivial, trivial, trivial, trivial⟩ ?_
                refine ab_wi (fun c => ?_) (fun c => ?_)
                · have h := h.1 c
                  exact ab_wr 1 rfl trivial h
                · have h := h.2 c
                  obtain ⟨r461, mi459, ml460, hc, h⟩ := h
                  refine ab_wc 3 (c := 158) (as := [.ref 40, .int 6]) (pc := 124) (ll := [some (.ref 40), some (.int x1), some (.int r3), some (.int 1), some (.int 1), none]) (st := []) (c1 := 0) (s1 := 0) (g := (ab_G mi457 ml458)) rfl ⟨trivial, trivial, trivial⟩ hc ?_
                  refine ab_wk 1 (f' := (if r461 = 0 then 161 else 127, [some (.ref 40), some (.int x1), some (.int r3), some (.int 1), some (.int 1), none], [], 0, 0, (ab_G mi459 ml460))) rfl ⟨trivial, trivial⟩ ?_
                  refine ab_wi (fun c => ?_) (fun c => ?_)
                  · have h := h.1 c
                    obtain ⟨r464, mi462, ml463, hc, h⟩ := h
                    refine ab_wc 3 (c := 157) (as := [.ref 40, .int 40]) (pc := 167) (ll := [some (.ref 40), some (.int x1), some (.int r3), some (.int 1), some (.int 1), none]) (st := []) (c1 := 0) (s1 := 0) (g := (ab_G mi459 ml460)) rfl ⟨trivial, trivial, trivial⟩ hc ?_
                    refine ab_wk 1 (f' := (if r464 = 0 then 186 else 170, [some (.ref 40), some (.int x1), some (.int r3), some (.int 1), some (.int 1), none], [], 0, 0, (ab_G mi462 ml463))) rfl ⟨trivial, trivial⟩ ?_
                    refine ab_wi (fun c => ?_) (fun c => ?_)
                    · have h := h.1 c
                      refine ab_wk 2 (f' := (if (1 : Int32) = 0 then 198 else 191, [some (.ref 40), some (.int x1), some (.int r3), some (.int 1), some (.int 1), none], [], 0, 0, (ab_G mi462 ml463))) rfl ⟨trivial, trivial, trivial⟩ ?_
                      refine ab_wif (c := ((1 : Int32) = 0)) (by decide) ?_
                      obtain ⟨mi465, ml466, hc, h⟩ := h
                      refine ab_wc 2 (c := 168) (as := [.ref 40]) (pc := 195) (ll := [some (.ref 40), some (.int x1), some (.int r3), some (.int 1), some (.int 1), none]) (st := []) (c1 := 0) (s1 := 0) (g := (ab_G mi462 ml463)) rfl ⟨trivial, trivial⟩ hc ?_
                      exact ab_wr 2 rfl ⟨trivial, trivial⟩ h
                    · have h := h.2 c
                      obtain ⟨mi467, ml468, hc, h⟩ := h
                      refine ab_wc 5 (c := 163) (as := [.ref 40, .int (x1 + 1)]) (pc := 177) (ll := [some (.ref 40), some (.int x1), some (.int r3), some (.int 1), some (.int 1), none]) (st := []) (c1 := 0) (s1 := 0) (g := (ab_G mi462 ml463)) rfl ⟨trivial, trivial, trivial, trivial, trivial⟩ hc ?_
                      obtain ⟨mi469, ml470, hc, h⟩ := h
                      refine ab_wc 3 (c := 156) (as := [.ref 40, .int 41]) (pc := 183) (ll := [some (.ref 40), some (.int x1), some (.int r3), some (.int 1), some (.int 1), none]) (st := []) (c1 := 0) (s1 := 0) (g := (ab_G mi467 ml468)) rfl ⟨trivial, trivial, trivial⟩ hc ?_
                      exact ab_wr 2 rfl ⟨trivial, trivial⟩ h
                  · have h := h.2 c
                    obtain ⟨mi471, ml472, hc, h⟩ := h
                    refine ab_wc 5 (c := 166) (as := [.ref 40, .int (x1 + 1)]) (pc := 134) (ll := [some (.ref 40), some (.int x1), some (.int r3), some (.int 1), some (.int 1), none]) (st := []) (c1 := 0) (s1 := 0) (g := (ab_G mi459 ml460)) rfl ⟨trivial, trivial, trivial, trivial, trivial⟩ hc ?_
                    exact ab_wr 14 rfl ⟨trivial, trivial, trivial, trivial, trivial, trivial, trivial, trivial, trivial, trivial, trivial, trivial, trivial, trivial⟩ h
              · have h := h.2 c
                refine ab_wk 3 (f' := (if 0 < (mi342 40 8) then 117 else 118, [some (.ref 40), some (.int x1), some (.int r3), some (.int 1), some (.int 1), none], [], 0, 0, (ab_G mi342 ml343))) rfl ⟨trivial, trivial, trivial, trivial⟩ ?_
                refine ab_wi (fun c => ?_) (fun c => ?_)
                · have h := h.1 c
                  exact ab_wr 1 rfl trivial h
                · have h := h.2 c
                  obtain ⟨r475, mi473, ml474, hc, h⟩ := h
                  refine ab_wc 3 (c := 158) (as := [.ref 40, .int 6]) (pc := 124) (ll := [some (.ref 40), some (.int x1), some (.int r3), some (.int 1), some (.int 1), none]) (st := []) (c1 := 0) (s1 := 0) (g := (ab_G mi342 ml343)) rfl ⟨trivial, trivial, trivial⟩ hc ?_
                  refine ab_wk 1 (f' := (if r475 = 0 then 161 else 127, [some (.ref 40), some (.int x1), some (.int r3), some (.int 1), some (.int 1), none], [], 0, 0, (ab_G mi473 ml474))) rfl ⟨trivial, trivial⟩ ?_
                  refine ab_wi (fun c => ?_) (fun c => ?_)
                  · have h := h.1 c
                    obtain ⟨r478, mi476, ml477, hc, h⟩ := h
                    refine ab_wc 3 (c := 157) (as := [.ref 40, .int 40]) (pc := 167) (ll := [some (.ref 40), some (.int x1), some (.int r3), some (.int 1), some (.int 1), none]) (st := []) (c1 := 0) (s1 := 0) (g := (ab_G mi473 ml474)) rfl ⟨trivial, trivial, trivial⟩ hc ?_
                    refine ab_wk 1 (f' := (if r478 = 0 then 186 else 170, [some (.ref 40), some (.int x1), some (.int r3), some (.int 1), some (.int 1), none], [], 0, 0, (ab_G mi476 ml477))) rfl ⟨trivial, trivial⟩ ?_
                    refine ab_wi (fun c => ?_) (fun c => ?_)
                    · have h := h.1 c
                      refine ab_wk 2 (f' := (if (1 : Int32) = 0 then 198 else 191, [some (.ref 40), some (.int x1), some (.int r3), some (.int 1), some (.int 1), none], [], 0, 0, (ab_G mi476 ml477))) rfl ⟨trivial, trivial, trivial⟩ ?_
                      refine ab_wif (c := ((1 : Int32) = 0)) (by decide) ?_
                      obtain ⟨mi479, ml480, hc, h⟩ := h
                      refine ab_wc 2 (c := 168) (as := [.ref 40]) (pc := 195) (ll := [some (.ref 40), some (.int x1), some (.int r3), some (.int 1), some (.int 1), none]) (st := []) (c1 := 0) (s1 := 0) (g := (ab_G mi476 ml477)) rfl ⟨trivial, trivial⟩ hc ?_
                      exact ab_wr 2 rfl ⟨trivial, trivial⟩ h
                    · have h := h.2 c
                      obtain ⟨mi481, ml482, hc, h⟩ := h
                      refine ab_wc 5 (c := 163) (as := [.ref 40, .int (x1 + 1)]) (pc := 177) (ll := [some (.ref 40), some (.int x1), some (.int r3), some (.int 1), some (.int 1), none]) (st := []) (c1 := 0) (s1 := 0) (g := (ab_G mi476 ml477)) rfl ⟨trivial, trivial, trivial, trivial, trivial⟩ hc ?_
                      obtain ⟨mi483, ml484, hc, h⟩ := h
                      refine ab_wc 3 (c := 156) (as := [.ref 40, .int 41]) (pc := 183) (ll := [some (.ref 40), some (.int x1), some (.int r3), some (.int 1), some (.int 1), none]) (st := []) (c1 := 0) (s1 := 0) (g := (ab_G mi481 ml482)) rfl ⟨trivial, trivial, trivial⟩ hc ?_
                      exact ab_wr 2 rfl ⟨trivial, trivial⟩ h
                  · have h := h.2 c
                    obtain ⟨mi485, ml486, hc, h⟩ := h
                    refine ab_wc 5 (c := 166) (as := [.ref 40, .int (x1 + 1)]) (pc := 134) (ll := [some (.ref 40), some (.int x1), some (.int r3), some (.int 1), some (.int 1), none]) (st := []) (c1 := 0) (s1 := 0) (g := (ab_G mi473 ml474)) rfl ⟨trivial, trivial, trivial, trivial, trivial⟩ hc ?_
                    exact ab_wr 14 rfl ⟨trivial, trivial, trivial, trivial, trivial, trivial, trivial, trivial, trivial, trivial, trivial, trivial, trivial, trivial⟩ h
            · have h := h.2 c
              refine ab_wk 3 (f' := (if x1 = 6 then 105 else 110, [some (.ref 40), some (.int x1), some (.int r3), some (.int 1), some (.int 1), none], [], 0, 0, (ab_G mi342 ml343))) rfl ⟨trivial, trivial, trivial, trivial⟩ ?_
              refine ab_wi (fun c => ?_) (fun c => ?_)
              · have h := h.1 c
                obtain ⟨mi487, ml488, hc, h⟩ := h
                refine ab_wc 3 (c := 153) (as := [.ref 40, .int 5]) (pc := 110) (ll := [some (.ref 40), some (.int x1), some (.int r3), some (.int 1), some (.int 1), none]) (st := []) (c1 := 0) (s1 := 0) (g := (ab_G mi342 ml343)) rfl ⟨trivial, trivial, trivial⟩ hc ?_
                refine ab_wk 3 (f' := (if 0 < (mi487 40 8) then 117 else 118, [some (.ref 40), some (.int x1), some (.int r3), some (.int 1), some (.int 1), none], [], 0, 0, (ab_G mi487 ml488))) rfl ⟨trivial, trivial, trivial, trivial⟩ ?_
                refine ab_wi (fun c => ?_) (fun c => ?_)
                · have h := h.1 c
                  exact ab_wr 1 rfl trivial h
                · have h := h.2 c
                  obtain ⟨r491, mi489, ml490, hc, h⟩ := h
                  refine ab_wc 3 (c := 158) (as := [.ref 40, .int 6]) (pc := 124) (ll := [some (.ref 40), some (.int x1), some (.int r3), some (.int 1), some (.int 1), none]) (st := []) (c1 := 0) (s1 := 0) (g := (ab_G mi487 ml488)) rfl ⟨trivial, trivial, trivial⟩ hc ?_
                  refine ab_wk 1 (f' := (if r491 = 0 then 161 else 127, [some (.ref 40), some (.int x1), some (.int r3), some (.int 1), some (.int 1), none], [], 0, 0, (ab_G mi489 ml490))) rfl ⟨trivial, trivial⟩ ?_
                  refine ab_wi (fun c => ?_) (fun c => ?_)
                  · have h := h.1 c
                    obtain ⟨r494, mi492, ml493, hc, h⟩ := h
                    refine ab_wc 3 (c := 157) (as := [.ref 40, .int 40]) (pc := 167) (ll := [some (.ref 40), some (.int x1), some (.int r3), some (.int 1), some (.int 1), none]) (st := []) (c1 := 0) (s1 := 0) (g := (ab_G mi489 ml490)) rfl ⟨trivial, trivial, trivial⟩ hc ?_
                    refine ab_wk 1 (f' := (if r494 = 0 then 186 else 170, [some (.ref 40), some (.int x1), some (.int r3), some (.int 1), some (.int 1), none], [], 0, 0, (ab_G mi492 ml493))) rfl ⟨trivial, trivial⟩ ?_
                    refine ab_wi (fun c => ?_) (fun c => ?_)
                    · have h := h.1 c
                      refine ab_wk 2 (f' := (if (1 : Int32) = 0 then 198 else 191, [some (.ref 40), some (.int x1), some (.int r3), some (.int 1), some (.int 1), none], [], 0, 0, (ab_G mi492 ml493))) rfl ⟨trivial, trivial, trivial⟩ ?_
                      refine ab_wif (c := ((1 : Int32) = 0)) (by decide) ?_
                      obtain ⟨mi495, ml496, hc, h⟩ := h
                      refine ab_wc 2 (c := 168) (as := [.ref 40]) (pc := 195) (ll := [some (.ref 40), some (.int x1), some (.int r3), some (.int 1), some (.int 1), none]) (st := []) (c1 := 0) (s1 := 0) (g := (ab_G mi492 ml493)) rfl ⟨trivial, trivial⟩ hc ?_
                      exact ab_wr 2 rfl ⟨trivial, trivial⟩ h
                    · have h := h.2 c
                      obtain ⟨mi497, ml498, hc, h⟩ := h
                      refine ab_wc 5 (c := 163) (as := [.ref 40, .int (x1 + 1)]) (pc := 177) (ll := [some (.ref 40), some (.int x1), some (.int r3), some (.int 1), some (.int 1), none]) (st := []) (c1 := 0) (s1 := 0) (g := (ab_G mi492 ml493)) rfl ⟨trivial, trivial, trivial, trivial, trivial⟩ hc ?_
                      obtain ⟨mi499, ml500, hc, h⟩ := h
                      refine ab_wc 3 (c := 156) (as := [.ref 40, .int 41]) (pc := 183) (ll := [some (.ref 40), some (.int x1), some (.int r3), some (.int 1), some (.int 1), none]) (st := []) (c1 := 0) (s1 := 0) (g := (ab_G mi497 ml498)) rfl ⟨trivial, trivial, trivial⟩ hc ?_
                      exact ab_wr 2 rfl ⟨trivial, trivial⟩ h
                  · have h := h.2 c
                    obtain ⟨mi501, ml502, hc, h⟩ := h
                    refine ab_wc 5 (c := 166) (as := [.ref 40, .int (x1 + 1)]) (pc := 134) (ll := [some (.ref 40), some (.int x1), some (.int r3), some (.int 1), some (.int 1), none]) (st := []) (c1 := 0) (s1 := 0) (g := (ab_G mi489 ml490)) rfl ⟨trivial, trivial, trivial, trivial, trivial⟩ hc ?_
                    exact ab_wr 14 rfl ⟨trivial, trivial, trivial, trivial, trivial, trivial, trivial, trivial, trivial, trivial, trivial, trivial, trivial, trivial⟩ h
              · have h := h.2 c
                refine ab_wk 3 (f' := (if 0 < (mi342 40 8) then 117 else 118, [some (.ref 40), some (.int x1), some (.int r3), some (.int 1), some (.int 1), none], [], 0, 0, (ab_G mi342 ml343))) rfl ⟨trivial, trivial, trivial, trivial⟩ ?_
                refine ab_wi (fun c => ?_) (fun c => ?_)
                · have h := h.1 c
                  exact ab_wr 1 rfl trivial h
                · have h := h.2 c
                  obtain ⟨r505, mi503, ml504, hc, h⟩ := h
                  refine ab_wc 3 (c := 158) (as := [.ref 40, .int 6]) (pc := 124) (ll := [some (.ref 40), some (.int x1), some (.int r3), some (.int 1), some (.int 1), none]) (st := []) (c1 := 0) (s1 := 0) (g := (ab_G mi342 ml343)) rfl ⟨trivial, trivial, trivial⟩ hc ?_
                  refine ab_wk 1 (f' := (if r505 = 0 then 161 else 127, [some (.ref 40), some (.int x1), some (.int r3), some (.int 1), some (.int 1), none], [], 0, 0, (ab_G mi503 ml504))) rfl ⟨trivial, trivial⟩ ?_
                  refine ab_wi (fun c => ?_) (fun c => ?_)
                  · have h := h.1 c
                    obtain ⟨r508, mi506, ml507, hc, h⟩ := h
                    refine ab_wc 3 (c := 157) (as := [.ref 40, .int 40]) (pc := 167) (ll := [some (.ref 40), some (.int x1), some (.int r3), some (.int 1), some (.int 1), none]) (st := []) (c1 := 0) (s1 := 0) (g := (ab_G mi503 ml504)) rfl ⟨trivial, trivial, trivial⟩ hc ?_
                    refine ab_wk 1 (f' := (if r508 = 0 then 186 else 170, [some (.ref 40), some (.int x1), some (.int r3), some (.int 1), some (.int 1), none], [], 0, 0, (ab_G mi506 ml507))) rfl ⟨trivial, trivial⟩ ?_
                    refine ab_wi (fun c => ?_) (fun c => ?_)
                    · have h := h.1 c
                      refine ab_wk 2 (f' := (if (1 : Int32) = 0 then 198 else 191, [some (.ref 40), some (.int x1), some (.int r3), some (.int 1), some (.int 1), none], [], 0, 0, (ab_G mi506 ml507))) rfl ⟨trivial, trivial, trivial⟩ ?_
                      refine ab_wif (c := ((1 : Int32) = 0)) (by decide) ?_
                      obtain ⟨mi509, ml510, hc, h⟩ := h
                      refine ab_wc 2 (c := 168) (as := [.ref 40]) (pc := 195) (ll := [some (.ref 40), some (.int x1), some (.int r3), some (.int 1), some (.int 1), none]) (st := []) (c1 := 0) (s1 := 0) (g := (ab_G mi506 ml507)) rfl ⟨trivial, trivial⟩ hc ?_
                      exact ab_wr 2 rfl ⟨trivial, trivial⟩ h
                    · have h := h.2 c
                      obtain ⟨mi511, ml512, hc, h⟩ := h
                      refine ab_wc 5 (c := 163) (as := [.ref 40, .int (x1 + 1)]) (pc := 177) (ll := [some (.ref 40), some (.int x1), some (.int r3), some (.int 1), some (.int 1), none]) (st := []) (c1 := 0) (s1 := 0) (g := (ab_G mi506 ml507)) rfl ⟨trivial, trivial, trivial, trivial, trivial⟩ hc ?_
                      obtain ⟨mi513, ml514, hc, h⟩ := h
                      refine ab_wc 3 (c := 156) (as := [.ref 40, .int 41]) (pc := 183) (ll := [some (.ref 40), some (.int x1), some (.int r3), some (.int 1), some (.int 1), none]) (st := []) (c1 := 0) (s1 := 0) (g := (ab_G mi511 ml512)) rfl ⟨trivial, trivial, trivial⟩ hc ?_
                      exact ab_wr 2 rfl ⟨trivial, trivial⟩ h
                  · have h := h.2 c
                    obtain ⟨mi515, ml516, hc, h⟩ := h
                    refine ab_wc 5 (c := 166) (as := [.ref 40, .int (x1 + 1)]) (pc := 134) (ll := [some (.ref 40), some (.int x1), some (.int r3), some (.int 1), some (.int 1), none]) (st := []) (c1 := 0) (s1 := 0) (g := (ab_G mi503 ml504)) rfl ⟨trivial, trivial, trivial, trivial, trivial⟩ hc ?_
                    exact ab_wr 14 rfl ⟨trivial, trivial, trivial, trivial, trivial, trivial, trivial, trivial, trivial, trivial, trivial, trivial, trivial, trivial⟩ h
        · have h := h.2 c
          refine ab_wk 5 (f' := (if r3 < 0 then 64 else 99, [some (.ref 40), some (.int x1), some (.int r3), some (.int 1), some (.int 1), none], [], 0, 0, (ab_G mi339 ml340))) rfl ⟨trivial, trivial, trivial, trivial, trivial, trivial⟩ ?_
          refine ab_wi (fun c => ?_) (fun c => ?_)
          · have h := h.1 c
            refine ab_wk 2 (f' := (if (1 : Int32) = 0 then 68 else 99, [some (.ref 40), some (.int x1), some (.int r3), some (.int 1), some (.int 1), none], [], 0, 0, (ab_G mi339 ml340))) rfl ⟨trivial, trivial, trivial⟩ ?_
            refine ab_wif (c := ((1 : Int32) = 0)) (by decide) ?_
            refine ab_wk 3 (f' := (if x1 = 6 then 105 else 110, [some (.ref 40), some (.int x1), some (.int r3), some (.int 1), some (.int 1), none], [], 0, 0, (ab_G mi339 ml340))) rfl ⟨trivial, trivial, trivial, trivial⟩ ?_
            refine ab_wi (fun c => ?_) (fun c => ?_)
            · have h := h.1 c
              obtain ⟨mi517, ml518, hc, h⟩ := h
              refine ab_wc 3 (c := 153) (as := [.ref 40, .int 5]) (pc := 110) (ll := [some (.ref 40), some (.int x1), some (.int r3), some (.int 1), some (.int 1), none]) (st := []) (c1 := 0) (s1 := 0) (g := (ab_G mi339 ml340)) rfl ⟨trivial, trivial, trivial⟩ hc ?_
              refine ab_wk 3 (f' := (if 0 < (mi517 40 8) then 117 else 118, [some (.ref 40), some (.int x1), some (.int r3), some (.int 1), some (.int 1), none], [], 0, 0, (ab_G mi517 ml518))) rfl ⟨trivial, trivial, trivial, trivial⟩ ?_
              refine ab_wi (fun c => ?_) (fun c => ?_)
              · have h := h.1 c
                exact ab_wr 1 rfl trivial h
              · have h := h.2 c
                obtain ⟨r521, mi519, ml520, hc, h⟩ := h
                refine ab_wc 3 (c := 158) (as := [.ref 40, .int 6]) (pc := 124) (ll := [some (.ref 40), some (.int x1), some (.int r3), some (.int 1), some (.int 1), none]) (st := []) (c1 := 0) (s1 := 0) (g := (ab_G mi517 ml518)) rfl ⟨trivial, trivial, trivial⟩ hc ?_
                refine ab_wk 1 (f' := (if r521 = 0 then 161 else 127, [some (.ref 40), some (.int x1), some (.int r3), some (.int 1), some (.int 1), none], [], 0, 0, (ab_G mi519 ml520))) rfl ⟨trivial, trivial⟩ ?_
                refine ab_wi (fun c => ?_) (fun c => ?_)
                · have h := h.1 c
                  obtain ⟨r524, mi522, ml523, hc, h⟩ := h
                  refine ab_wc 3 (c := 157) (as := [.ref 40, .int 40]) (pc := 167) (ll := [some (.ref 40), some (.int x1), some (.int r3), some (.int 1), some (.int 1), none]) (st := []) (c1 := 0) (s1 := 0) (g := (ab_G mi519 ml520)) rfl ⟨trivial, trivial, trivial⟩ hc ?_
                  refine ab_wk 1 (f' := (if r524 = 0 then 186 else 170, [some (.ref 40), some (.int x1), some (.int r3), some (.int 1), some (.int 1), none], [], 0, 0, (ab_G mi522 ml523))) rfl ⟨trivial, trivial⟩ ?_
                  refine ab_wi (fun c => ?_) (fun c => ?_)
                  · have h := h.1 c
                    refine ab_wk 2 (f' := (if (1 : Int32) = 0 then 198 else 191, [some (.ref 40), some (.int x1), some (.int r3), some (.int 1), some (.int 1), none], [], 0, 0, (ab_G mi522 ml523))) rfl ⟨trivial, trivial, trivial⟩ ?_
                    refine ab_wif (c := ((1 : Int32) = 0)) (by decide) ?_
                    obtain ⟨mi525, ml526, hc, h⟩ := h
                    refine ab_wc 2 (c := 168) (as := [.ref 40]) (pc := 195) (ll := [some (.ref 40), some (.int x1), some (.int r3), some (.int 1), some (.int 1), none]) (st := []) (c1 := 0) (s1 := 0) (g := (ab_G mi522 ml523)) rfl ⟨trivial, trivial⟩ hc ?_
                    exact ab_wr 2 rfl ⟨trivial, trivial⟩ h
                  · have h := h.2 c
                    obtain ⟨mi527, ml528, hc, h⟩ := h
                    refine ab_wc 5 (c := 163) (as := [.ref 40, .int (x1 + 1)]) (pc := 177) (ll := [some (.ref 40), some (.int x1), some (.int r3), some (.int 1), some (.int 1), none]) (st := []) (c1 := 0) (s1 := 0) (g := (ab_G mi522 ml523)) rfl ⟨trivial, trivial, trivial, trivial, trivial⟩ hc ?_
                    obtain ⟨mi529, ml530, hc, h⟩ := h
                    refine ab_wc 3 (c := 156) (as := [.ref 40, .int 41]) (pc := 183) (ll := [some (.ref 40), some (.int x1), some (.int r3), some (.int 1), some (.int 1), none]) (st := []) (c1 := 0) (s1 := 0) (g := (ab_G mi527 ml528)) rfl ⟨trivial, trivial, trivial⟩ hc ?_
                    exact ab_wr 2 rfl ⟨trivial, trivial⟩ h
                · have h := h.2 c
                  obtain ⟨mi531, ml532, hc, h⟩ := h
                  refine ab_wc 5 (c := 166) (as := [.ref 40, .int (x1 + 1)]) (pc := 134) (ll := [some (.ref 40), some (.int x1), some (.int r3), some (.int 1), some (.int 1), none]) (st := []) (c1 := 0) (s1 := 0) (g := (ab_G mi519 ml520)) rfl ⟨trivial, trivial, trivial, trivial, trivial⟩ hc ?_
                  exact ab_wr 14 rfl ⟨trivial, trivial, trivial, trivial, trivial, trivial, trivial, trivial, trivial, trivial, trivial, trivial, trivial, trivial⟩ h
            · have h := h.2 c
              refine ab_wk 3 (f' := (if 0 < (mi339 40 8) then 117 else 118, [some (.ref 40), some (.int x1), some (.int r3), some (.int 1), some (.int 1), none], [], 0, 0, (ab_G mi339 ml340))) rfl ⟨trivial, trivial, trivial, trivial⟩ ?_
              refine ab_wi (fun c => ?_) (fun c => ?_)
              · have h := h.1 c
                exact ab_wr 1 rfl trivial h
              · have h := h.2 c
                obtain ⟨r535, mi533, ml534, hc, h⟩ := h
                refine ab_wc 3 (c := 158) (as := [.ref 40, .int 6]) (pc := 124) (ll := [some (.ref 40), some (.int x1), some (.int r3), some (.int 1), some (.int 1), none]) (st := []) (c1 := 0) (s1 := 0) (g := (ab_G mi339 ml340)) rfl ⟨trivial, trivial, trivial⟩ hc ?_
                refine ab_wk 1 (f' := (if r535 = 0 then 161 else 127, [some (.ref 40), some (.int x1), some (.int r3), some (.int 1), some (.int 1), none], [], 0, 0, (ab_G mi533 ml534))) rfl ⟨trivial, trivial⟩ ?_
                refine ab_wi (fun c => ?_) (fun c => ?_)
                · have h := h.1 c
                  obtain ⟨r538, mi536, ml537, hc, h⟩ := h
                  refine ab_wc 3 (c := 157) (as := [.ref 40, .int 40]) (pc := 167) (ll := [some (.ref 40), some (.int x1), some (.int r3), some (.int 1), some (.int 1), none]) (st := []) (c1 := 0) (s1 := 0) (g := (ab_G mi533 ml534)) rfl ⟨trivial, trivial, trivial⟩ hc ?_
                  refine ab_wk 1 (f' := (if r538 = 0 then 186 else 170, [some (.ref 40), some (.int x1), some (.int r3), some (.int 1), some (.int 1), none], [], 0, 0, (ab_G mi536 ml537))) rfl ⟨trivial, trivial⟩ ?_
                  refine ab_wi (fun c => ?_) (fun c => ?_)
                  · have h := h.1 c
                    refine ab_wk 2 (f' := (if (1 : Int32) = 0 then 198 else 191, [some (.ref 40), some (.int x1), some (.int r3), some (.int 1), some (.int 1), none], [], 0, 0, (ab_G mi536 ml537))) rfl ⟨trivial, trivial, trivial⟩ ?_
                    refine ab_wif (c := ((1 : Int32) = 0)) (by decide) ?_
                    obtain ⟨mi539, ml540, hc, h⟩ := h
                    refine ab_wc 2 (c := 168) (as := [.ref 40]) (pc := 195) (ll := [some (.ref 40), some (.int x1), some (.int r3), some (.int 1), some (.int 1), none]) (st := []) (c1 := 0) (s1 := 0) (g := (ab_G mi536 ml537)) rfl ⟨trivial, trivial⟩ hc ?_
                    exact ab_wr 2 rfl ⟨trivial, trivial⟩ h
                  · have h := h.2 c
                    obtain ⟨mi541, ml542, hc, h⟩ := h
                    refine ab_wc 5 (c := 163) (as := [.ref 40, .int (x1 + 1)]) (pc := 177) (ll := [some (.ref 40), some (.int x1), some (.int r3), some (.int 1), some (.int 1), none]) (st := []) (c1 := 0) (s1 := 0) (g := (ab_G mi536 ml537)) rfl ⟨trivial, trivial, trivial, trivial, trivial⟩ hc ?_
                    obtain ⟨mi543, ml544, hc, h⟩ := h
                    refine ab_wc 3 (c := 156) (as := [.ref 40, .int 41]) (pc := 183) (ll := [some (.ref 40), some (.int x1), some (.int r3), some (.int 1), some (.int 1), none]) (st := []) (c1 := 0) (s1 := 0) (g := (ab_G mi541 ml542)) rfl ⟨trivial, trivial, trivial⟩ hc ?_
                    exact ab_wr 2 rfl ⟨trivial, trivial⟩ h
                · have h := h.2 c
                  obtain ⟨mi545, ml546, hc, h⟩ := h
                  refine ab_wc 5 (c := 166) (as := [.ref 40, .int (x1 + 1)]) (pc := 134) (ll := [some (.ref 40), some (.int x1), some (.int r3), some (.int 1), some (.int 1), none]) (st := []) (c1 := 0) (s1 := 0) (g := (ab_G mi533 ml534)) rfl ⟨trivial, trivial, trivial, trivial, trivial⟩ hc ?_
                  exact ab_wr 14 rfl ⟨trivial, trivial, trivial, trivial, trivial, trivial, trivial, trivial, trivial, trivial, trivial, trivial, trivial, trivial⟩ h
          · have h := h.2 c
            refine ab_wk 3 (f' := (if x1 = 6 then 105 else 110, [some (.ref 40), some (.int x1), some (.int r3), some (.int 1), some (.int 1), none], [], 0, 0, (ab_G mi339 ml340))) rfl ⟨trivial, trivial, trivial, trivial⟩ ?_
            refine ab_wi (fun c => ?_) (fun c => ?_)
            · have h := h.1 c
              obtain ⟨mi547, ml548, hc, h⟩ := h
              refine ab_wc 3 (c := 153) (as := [.ref 40, .int 5]) (pc := 110) (ll := [some (.ref 40), some (.int x1), some (.int r3), some (.int 1), some (.int 1), none]) (st := []) (c1 := 0) (s1 := 0) (g := (ab_G mi339 ml340)) rfl ⟨trivial, trivial, trivial⟩ hc ?_
              refine ab_wk 3 (f' := (if 0 < (mi547 40 8) then 117 else 118, [some (.ref 40), some (.int x1), some (.int r3), some (.int 1), some (.int 1), none], [], 0, 0, (ab_G mi547 ml548))) rfl ⟨trivial, trivial, trivial, trivial⟩ ?_
              refine ab_wi (fun c => ?_) (fun c => ?_)
              · have h := h.1 c
                exact ab_wr 1 rfl trivial h
              · have h := h.2 c
                obtain ⟨r551, mi549, ml550, hc, h⟩ := h
                refine ab_wc 3 (c := 158) (as := [.ref 40, .int 6]) (pc := 124) (ll := [some (.ref 40), some (.int x1), some (.int r3), some (.int 1), some (.int 1), none]) (st := []) (c1 := 0) (s1 := 0) (g := (ab_G mi547 ml548)) rfl ⟨trivial, trivial, trivial⟩ hc ?_
                refine ab_wk 1 (f' := (if r551 = 0 then 161 else 127, [some (.ref 40), some (.int x1), some (.int r3), some (.int 1), some (.int 1), none], [], 0, 0, (ab_G mi549 ml550))) rfl ⟨trivial, trivial⟩ ?_
                refine ab_wi (fun c => ?_) (fun c => ?_)
                · have h := h.1 c
                  obtain ⟨r554, mi552, ml553, hc, h⟩ := h
                  refine ab_wc 3 (c := 157) (as := [.ref 40, .int 40]) (pc := 167) (ll := [some (.ref 40), some (.int x1), some (.int r3), some (.int 1), some (.int 1), none]) (st := []) (c1 := 0) (s1 := 0) (g := (ab_G mi549 ml550)) rfl ⟨trivial, trivial, trivial⟩ hc ?_
                  refine ab_wk 1 (f' := (if r554 = 0 then 186 else 170, [some (.ref 40), some (.int x1), some (.int r3), some (.int 1), some (.int 1), none], [], 0, 0, (ab_G mi552 ml553))) rfl ⟨trivial, trivial⟩ ?_
                  refine ab_wi (fun c => ?_) (fun c => ?_)
                  · have h := h.1 c
                    refine ab_wk 2 (f' := (if (1 : Int32) = 0 then 198 else 191, [some (.ref 40), some (.int x1), some (.int r3), some (.int 1), some (.int 1), none], [], 0, 0, (ab_G mi552 ml553))) rfl ⟨trivial, trivial, trivial⟩ ?_
                    refine ab_wif (c := ((1 : Int32) = 0)) (by decide) ?_
                    obtain ⟨mi555, ml556, hc, h⟩ := h
                    refine ab_wc 2 (c := 168) (as := [.ref 40]) (pc := 195) (ll := [some (.ref 40), some (.int x1), some (.int r3), some (.int 1), some (.int 1), none]) (st := []) (c1 := 0) (s1 := 0) (g := (ab_G mi552 ml553)) rfl ⟨trivial, trivial⟩ hc ?_
                    exact ab_wr 2 rfl ⟨trivial, trivial⟩ h
                  · have h := h.2 c
                    obtain ⟨mi557, ml558, hc, h⟩ := h
                    refine ab_wc 5 (c := 163) (as := [.ref 40, .int (x1 + 1)]) (pc := 177) (ll := [some (.ref 40), some (.int x1), some (.int r3), some (.int 1), some (.int 1), none]) (st := []) (c1 := 0) (s1 := 0) (g := (ab_G mi552 ml553)) rfl ⟨trivial, trivial, trivial, trivial, trivial⟩ hc ?_
                    obtain ⟨mi559, ml560, hc, h⟩ := h
                    refine ab_wc 3 (c := 156) (as := [.ref 40, .int 41]) (pc := 183) (ll := [some (.ref 40), some (.int x1), some (.int r3), some (.int 1), some (.int 1), none]) (st := []) (c1 := 0) (s1 := 0) (g := (ab_G mi557 ml558)) rfl ⟨trivial, trivial, trivial⟩ hc ?_
                    exact ab_wr 2 rfl ⟨trivial, trivial⟩ h
                · have h := h.2 c
                  obtain ⟨mi561, ml562, hc, h⟩ := h
                  refine ab_wc 5 (c := 166) (as := [.ref 40, .int (x1 + 1)]) (pc := 134) (ll := [some (.ref 40), some (.int x1), some (.int r3), some (.int 1), some (.int 1), none]) (st := []) (c1 := 0) (s1 := 0) (g := (ab_G mi549 ml550)) rfl ⟨trivial, trivial, trivial, trivial, trivial⟩ hc ?_
                  exact ab_wr 14 rfl ⟨trivial, trivial, trivial, trivial, trivial, trivial, trivial, trivial, trivial, trivial, trivial, trivial, trivial, trivial⟩ h
            · have h := h.2 c
              refine ab_wk 3 (f' := (if 0 < (mi339 40 8) then 117 else 118, [some (.ref 40), some (.int x1), some (.int r3), some (.int 1), some (.int 1), none], [], 0, 0, (ab_G mi339 ml340))) rfl ⟨trivial, trivial, trivial, trivial⟩ ?_
              refine ab_wi (fun c => ?_) (fun c => ?_)
              · have h := h.1 c
                exact ab_wr 1 rfl trivial h
              · have h := h.2 c
                obtain ⟨r565, mi563, ml564, hc, h⟩ := h
                refine ab_wc 3 (c := 158) (as := [.ref 40, .int 6]) (pc := 124) (ll := [some (.ref 40), some (.int x1), some (.int r3), some (.int 1), some (.int 1), none]) (st := []) (c1 := 0) (s1 := 0) (g := (ab_G mi339 ml340)) rfl ⟨trivial, trivial, trivial⟩ hc ?_
                refine ab_wk 1 (f' := (if r565 = 0 then 161 else 127, [some (.ref 40), some (.int x1), some (.int r3), some (.int 1), some (.int 1), none], [], 0, 0, (ab_G mi563 ml564))) rfl ⟨trivial, trivial⟩ ?_
                refine ab_wi (fun c => ?_) (fun c => ?_)
                · have h := h.1 c
                  obtain ⟨r568, mi566, ml567, hc, h⟩ := h
                  refine ab_wc 3 (c := 157) (as := [.ref 40, .int 40]) (pc := 167) (ll := [some (.ref 40), some (.int x1), some (.int r3), some (.int 1), some (.int 1), none]) (st := []) (c1 := 0) (s1 := 0) (g := (ab_G mi563 ml564)) rfl ⟨trivial, trivial, trivial⟩ hc ?_
                  refine ab_wk 1 (f' := (if r568 = 0 then 186 else 170, [some (.ref 40), some (.int x1), some (.int r3), some (.int 1), some (.int 1), none], [], 0, 0, (ab_G mi566 ml567))) rfl ⟨trivial, trivial⟩ ?_
                  refine ab_wi (fun c => ?_) (fun c => ?_)
                  · have h := h.1 c
                    refine ab_wk 2 (f' := (if (1 : Int32) = 0 then 198 else 191, [some (.ref 40), some (.int x1), some (.int r3), some (.int 1), some (.int 1), none], [], 0, 0, (ab_G mi566 ml567))) rfl ⟨trivial, trivial, trivial⟩ ?_
                    refine ab_wif (c := ((1 : Int32) = 0)) (by decide) ?_
                    obtain ⟨mi569, ml570, hc, h⟩ := h
                    refine ab_wc 2 (c := 168) (as := [.ref 40]) (pc := 195) (ll := [some (.ref 40), some (.int x1), some (.int r3), some (.int 1), some (.int 1), none]) (st := []) (c1 := 0) (s1 := 0) (g := (ab_G mi566 ml567)) rfl ⟨trivial, trivial⟩ hc ?_
                    exact ab_wr 2 rfl ⟨trivial, trivial⟩ h
                  · have h := h.2 c
                    obtain ⟨mi571, ml572, hc, h⟩ := h
                    refine ab_wc 5 (c := 163) (as := [.ref 40, .int (x1 + 1)]) (pc := 177) (ll := [some (.ref 40), some (.int x1), some (.int r3), some (.int 1), some (.int 1), none]) (st := []) (c1 := 0) (s1 := 0) (g := (ab_G mi566 ml567)) rfl ⟨trivial, trivial, trivial, trivial, trivial⟩ hc ?_
                    obtain ⟨mi573, ml574, hc, h⟩ := h
                    refine ab_wc 3 (c := 156) (as := [.ref 40, .int 41]) (pc := 183) (ll := [some (.ref 40), some (.int x1), some (.int r3), some (.int 1), some (.int 1), none]) (st := []) (c1 := 0) (s1 := 0) (g := (ab_G mi571 ml572)) rfl ⟨trivial, trivial, trivial⟩ hc ?_
                    exact ab_wr 2 rfl ⟨trivial, trivial⟩ h
                · have h := h.2 c
                  obtain ⟨mi575, ml576, hc, h⟩ := h
                  refine ab_wc 5 (c := 166) (as := [.ref 40, .int (x1 + 1)]) (pc := 134) (ll := [some (.ref 40), some (.int x1), some (.int r3), some (.int 1), some (.int 1), none]) (st := []) (c1 := 0) (s1 := 0) (g := (ab_G mi563 ml564)) rfl ⟨trivial, trivial, trivial, trivial, trivial⟩ hc ?_
                  exact ab_wr 14 rfl ⟨trivial, trivial, trivial, trivial, trivial, trivial, trivial, trivial, trivial, trivial, trivial, trivial, trivial, trivial⟩ h
    · have h := h.2 c
      obtain ⟨r579, mi577, ml578, hc, h⟩ := h
      refine ab_wc 6 (c := 155) (as := [.ref 40, .int 8]) (pc := 41) (ll := [some (.ref 40), some (.int x1), some (.int r3), some (.int 1), none, none]) (st := []) (c1 := 0) (s1 := 0) (g := (ab_G mi4 ml5)) rfl ⟨trivial, trivial, trivial, trivial, trivial, trivial⟩ hc ?_
      refine ab_wk 1 (f' := (if r579 = 0 then 44 else 53, [some (.ref 40), some (.int x1), some (.int r3), some (.int 1), none, none], [], 0, 0, (ab_G mi577 ml578))) rfl ⟨trivial, trivial⟩ ?_
      refine ab_wi (fun c => ?_) (fun c => ?_)
      · have h := h.1 c
        obtain ⟨r582, mi580, ml581, hc, h⟩ := h
        refine ab_wc 3 (c := 155) (as := [.ref 40, .int 9]) (pc := 50) (ll := [some (.ref 40), some (.int x1), some (.int r3), some (.int 1), none, none]) (st := []) (c1 := 0) (s1 := 0) (g := (ab_G mi577 ml578)) rfl ⟨trivial, trivial, trivial⟩ hc ?_
        refine ab_wk 1 (f' := (if r582 = 0 then 57 else 53, [some (.ref 40), some (.int x1), some (.int r3), some (.int 1), none, none], [], 0, 0, (ab_G mi580 ml581))) rfl ⟨trivial, trivial⟩ ?_
        refine ab_wi (fun c => ?_) (fun c => ?_)
        · have h := h.1 c
          refine ab_wk 4 (f' := (if r3 < 0 then 64 else 99, [some (.ref 40), some (.int x1), some (.int r3), some (.int 1), some (.int 0), none], [], 0, 0, (ab_G mi580 ml581))) rfl ⟨trivial, trivial, trivial, trivial, trivial⟩ ?_
          refine ab_wi (fun c => ?_) (fun c => ?_)
          · have h := h.1 c
            refine ab_wk 2 (f' := (if (1 : Int32) = 0 then 68 else 99, [some (.ref 40), some (.int x1), some (.int r3), some (.int 1), some (.int 0), none], [], 0, 0, (ab_G mi580 ml581))) rfl ⟨trivial, trivial, trivial⟩ ?_
            refine ab_wif (c := ((1 : Int32) = 0)) (by decide) ?_
            refine ab_wk 3 (f' := (if x1 = 6 then 105 else 110, [some (.ref 40), some (.int x1), some (.int r3), some (.int 1), some (.int 0), none], [], 0, 0, (ab_G mi580 ml581))) rfl ⟨trivial, trivial, trivial, trivial⟩ ?_
            refine ab_wi (fun c => ?_) (fun c => ?_)
            · have h := h.1 c
              obtain ⟨mi583, ml584, hc, h⟩ := h
              refine ab_wc 3 (c := 153) (as := [.ref 40, .int 5]) (pc := 110) (ll := [some (.ref 40), some (.int x1), some (.int r3), some (.int 1), some (.int 0), none]) (st := []) (c1 := 0) (s1 := 0) (g := (ab_G mi580 ml581)) rfl ⟨trivial, trivial, trivial⟩ hc ?_
              refine ab_wk 3 (f' := (if 0 < (mi583 40 8) then 117 else 118, [some (.ref 40), some (.int x1), some (.int r3), some (.int 1), some (.int 0), none], [], 0, 0, (ab_G mi583 ml584))) rfl ⟨trivial, trivial, trivial, trivial⟩ ?_
              refine ab_wi (fun c => ?_) (fun c => ?_)
              · have h := h.1 c
                exact ab_wr 1 rfl trivial h
              · have h := h.2 c
                obtain ⟨r587, mi585, ml586, hc, h⟩ := h
                refine ab_wc 3 (c := 158) (as := [.ref 40, .int 6]) (pc := 124) (ll := [some (.ref 40), some (.int x1), some (.int r3), some (.int 1), some (.int 0), none]) (st := []) (c1 := 0) (s1 := 0) (g := (ab_G mi583 ml584)) rfl ⟨trivial, trivial, trivial⟩ hc ?_
                refine ab_wk 1 (f' := (if r587 = 0 then 161 else 127, [some (.ref 40), some (.int x1), some (.int r3), some (.int 1), some (.int 0), none], [], 0, 0, (ab_G mi585 ml586))) rfl ⟨trivial, trivial⟩ ?_
                refine ab_wi (fun c => ?_) (fun c => ?_)
                · have h := h.1 c
                  obtain ⟨r590, mi588, ml589, hc, h⟩ := h
                  refine ab_wc 3 (c := 157) (as := [.ref 40, .int 40]) (pc := 167) (ll := [some (.ref 40), some (.int x1), some (.int r3), some (.int 1), some (.int 0), none]) (st := []) (c1 := 0) (s1 := 0) (g := (ab_G mi585 ml586)) rfl ⟨trivial, trivial, trivial⟩ hc ?_
                  refine ab_wk 1 (f' := (if r590 = 0 then 186 else 170, [some (.ref 40), some (.int x1), some (.int r3), some (.int 1), some (.int 0), none], [], 0, 0, (ab_G mi588 ml589))) rfl ⟨trivial, trivial⟩ ?_
                  refine ab_wi (fun c => ?_) (fun c => ?_)
                  · have h := h.1 c
                    refine ab_wk 2 (f' := (if (0 : Int32) = 0 then 198 else 191, [some (.ref 40), some (.int x1), some (.int r3), some (.int 1), some (.int 0), none], [], 0, 0, (ab_G mi588 ml589))) rfl ⟨trivial, trivial, trivial⟩ ?_
                    refine ab_wit (c := ((0 : Int32) = 0)) (by decide) ?_
                    obtain ⟨r593, mi591, ml592, hc, h⟩ := h
                    refine ab_wc 3 (c := 155) (as := [.ref 40, .int 5]) (pc := 203) (ll := [some (.ref 40), some (.int x1), some (.int r3), some (.int 1), some (.int 0), none]) (st := []) (c1 := 0) (s1 := 0) (g := (ab_G mi588 ml589)) rfl ⟨trivial, trivial, trivial⟩ hc ?_
                    refine ab_wk 10 (f' := (if r3 < 0 then 220 else 224, [some (.ref 40), some (.int x1), some (.int r3), some (.int 1), some (.int 0), some (.int r593)], [.ref 40], 0, 0, (ab_G (ab_ui mi591 40 7 ((mi591 40 7) + 1)) ml592))) rfl ⟨trivial, trivial, trivial, trivial, trivial, trivial, trivial, trivial, trivial, trivial, trivial⟩ ?_
                    refine ab_wi (fun c => ?_) (fun c => ?_)
                    · have h := h.1 c
                      refine ab_wk 4 (f' := (if r3 < 0 then 231 else 244, [some (.ref 40), some (.int x1), some (.int r3), some (.int 1), some (.int 0), some (.int r593)], [.int 0, .ref 40], 0, 0, (ab_G (ab_ui mi591 40 7 ((mi591 40 7) + 1)) ml592))) rfl ⟨trivial, trivial, trivial, trivial, trivial⟩ ?_
                      refine ab_wi (fun c => ?_) (fun c => ?_)
                      · have h := h.1 c
                        refine ab_wk 2 (f' := (if r593 = 0 then 240 else 236, [some (.ref 40), some (.int x1), some (.int r3), some (.int 1), some (.int 0), some (.int r593)], [.int 0, .ref 40], 0, 0, (ab_G (ab_ui mi591 40 7 ((mi591 40 7) + 1)) ml592))) rfl ⟨trivial, trivial, trivial⟩ ?_
                        refine ab_wi (fun c => ?_) (fun c => ?_)
                        · have h := h.1 c
                          obtain ⟨mi594, ml595, hc, h⟩ := h
                          refine ab_wc 4 (c := 162) (as := [.ref 40, .int 0, .int 0, .int 0]) (pc := 249) (ll := [some (.ref 40), some (.int x1), some (.int r3), some (.int 1), some (.int 0), some (.int r593)]) (st := []) (c1 := 0) (s1 := 0) (g := (ab_G (ab_ui mi591 40 7 ((mi591 40 7) + 1)) ml592)) rfl ⟨trivial, trivial, trivial, trivial⟩ hc ?_
                          exact ab_wr 1 rfl trivial h
                        · have h := h.2 c
                          obtain ⟨mi596, ml597, hc, h⟩ := h
                          refine ab_wc 4 (c := 162) (as := [.ref 40, .int 0, .int 1, .int 0]) (pc := 249) (ll := [some (.ref 40), some (.int x1), some (.int r3), some (.int 1), some (.int 0), some (.int r593)]) (st := []) (c1 := 0) (s1 := 0) (g := (ab_G (ab_ui mi591 40 7 ((mi591 40 7) + 1)) ml592)) rfl ⟨trivial, trivial, trivial, trivial⟩ hc ?_
                          exact ab_wr 1 rfl trivial h
                      · have h := h.2 c
                        obtain ⟨mi598, ml599, hc, h⟩ := h
                        refine ab_wc 3 (c := 162) (as := [.ref 40, .int 0, .int 1, .int 0]) (pc := 249) (ll := [some (.ref 40), some (.int x1), some (.int r3), some (.int 1), some (.int 0), some (.int r593)]) (st := []) (c1 := 0) (s1 := 0) (g := (ab_G (ab_ui mi591 40 7 ((mi591 40 7) + 1)) ml592)) rfl ⟨trivial, trivial, trivial⟩ hc ?_
                        exact ab_wr 1 rfl trivial h
                    · have h := h.2 c
                      refine ab_wk 5 (f' := (if r3 < 0 then 231 else 244, [some (.ref 40), some (.int x1), some (.int r3), some (.int 1), some (.int 0), some (.int r593)], [.int ((1 : Int32) <<< (r3 &&& 31)), .ref 40], 0, 0, (ab_G (ab_ui mi591 40 7 ((mi591 40 7) + 1)) ml592))) rfl ⟨trivial, trivial, trivial, trivial, trivial, trivial⟩ ?_
                      refine ab_wi (fun c => ?_) (fun c => ?_)
                      · have h := h.1 c
                        refine ab_wk 2 (f' := (if r593 = 0 then 240 else 236, [some (.ref 40), some (.int x1), some (.int r3), some (.int 1), some (.int 0), some (.int r593)], [.int ((1 : Int32) <<< (r3 &&& 31)), .ref 40], 0, 0, (ab_G (ab_ui mi591 40 7 ((mi591 40 7) + 1)) ml592))) rfl ⟨trivial, trivial, trivial⟩ ?_
                        refine ab_wi (fun c => ?_) (fun c => ?_)
                        · have h := h.1 c
                          obtain ⟨mi600, ml601, hc, h⟩ := h
                          refine ab_wc 4 (c := 162) (as := [.ref 40, .int ((1 : Int32) <<< (r3 &&& 31)), .int 0, .int 0]) (pc := 249) (ll := [some (.ref 40), some (.int x1), some (.int r3), some (.int 1), some (.int 0), some (.int r593)]) (st := []) (c1 := 0) (s1 := 0) (g := (ab_G (ab_ui mi591 40 7 ((mi591 40 7) + 1)) ml592)) rfl ⟨trivial, trivial, trivial, trivial⟩ hc ?_
                          exact ab_wr 1 rfl trivial h
                        · have h := h.2 c
                          obtain ⟨mi602, ml603, hc, h⟩ := h
                          refine ab_wc 4 (c := 162) (as := [.ref 40, .int ((1 : Int32) <<< (r3 &&& 31)), .int 1, .int 0]) (pc := 249) (ll := [some (.ref 40), some (.int x1), some (.int r3), some (.int 1), some (.int 0), some (.int r593)]) (st := []) (c1 := 0) (s1 := 0) (g := (ab_G (ab_ui mi591 40 7 ((mi591 40 7) + 1)) ml592)) rfl ⟨trivial, trivial, trivial, trivial⟩ hc ?_
                          exact ab_wr 1 rfl trivial h
                      · have h := h.2 c
                        obtain ⟨mi604, ml605, hc, h⟩ := h
                        refine ab_wc 3 (c := 162) (as := [.ref 40, .int ((1 : Int32) <<< (r3 &&& 31)), .int 1, .int 0]) (pc := 249) (ll := [some (.ref 40), some (.int x1), some (.int r3), some (.int 1), some (.int 0), some (.int r593)]) (st := []) (c1 := 0) (s1 := 0) (g := (ab_G (ab_ui mi591 40 7 ((mi591 40 7) + 1)) ml592)) rfl ⟨trivial, trivial, trivial⟩ hc ?_
                        exact ab_wr 1 rfl trivial h
                  · have h := h.2 c
                    obtain ⟨mi606, ml607, hc, h⟩ := h
                    refine ab_wc 5 (c := 163) (as := [.ref 40, .int (x1 + 1)]) (pc := 177) (ll := [some (.ref 40), some (.int x1), some (.int r3), some (.int 1), some (.int 0), none]) (st := []) (c1 := 0) (s1 := 0) (g := (ab_G mi588 ml589)) rfl ⟨trivial, trivial, trivial, trivial, trivial⟩ hc ?_
                    obtain ⟨mi608, ml609, hc, h⟩ := h
                    refine ab_wc 3 (c := 156) (as := [.ref 40, .int 41]) (pc := 183) (ll := [some (.ref 40), some (.int x1), some (.int r3), some (.int 1), some (.int 0), none]) (st := []) (c1 := 0) (s1 := 0) (g := (ab_G mi606 ml607)) rfl ⟨trivial, trivial, trivial⟩ hc ?_
                    exact ab_wr 2 rfl ⟨trivial, trivial⟩ h
                · have h := h.2 c
                  obtain ⟨mi610, ml611, hc, h⟩ := h
                  refine ab_wc 5 (c := 166) (as := [.ref 40, .int (x1 + 1)]) (pc := 134) (ll := [some (.ref 40), some (.int x1), some (.int r3), some (.int 1), some (.int 0), none]) (st := []) (c1 := 0) (s1 := 0) (g := (ab_G mi585 ml586)) rfl ⟨trivial, trivial, trivial, trivial, trivial⟩ hc ?_
                  exact ab_wr 14 rfl ⟨trivial, trivial, trivial, trivial, trivial, trivial, trivial, trivial, trivial, trivial, trivial, trivial, trivial, trivial⟩ h
            · have h := h.2 c
              refine ab_wk 3 (f' := (if 0 < (mi580 40 8) then 117 else 118, [some (.ref 40), some (.int x1), some (.int r3), some (.int 1), some (.int 0), none], [], 0, 0, (ab_G mi580 ml581))) rfl ⟨trivial, trivial, trivial, trivial⟩ ?_
              refine ab_wi (fun c => ?_) (fun c => ?_)
              · have h := h.1 c
                exact ab_wr 1 rfl trivial h
              · have h := h.2 c
                obtain ⟨r614, mi612, ml613, hc, h⟩ := h
                refine ab_wc 3 (c := 158) (as := [.ref 40, .int 6]) (pc := 124) (ll := [some (.ref 40), some (.int x1), some (.int r3), some (.int 1), some (.int 0), none]) (st := []) (c1 := 0) (s1 := 0) (g := (ab_G mi580 ml581)) rfl ⟨trivial, trivial, trivial⟩ hc ?_
                refine ab_wk 1 (f' := (if r614 = 0 then 161 else 127, [some (.ref 40), some (.int x1), some (.int r3), some (.int 1), some (.int 0), none], [], 0, 0, (ab_G mi612 ml613))) rfl ⟨trivial, trivial⟩ ?_
                refine ab_wi (fun c => ?_) (fun c => ?_)
                · have h := h.1 c
                  obtain ⟨r617, mi615, ml616, hc, h⟩ := h
                  refine ab_wc 3 (c := 157) (as := [.ref 40, .int 40]) (pc := 167) (ll := [some (.ref 40), some (.int x1), some (.int r3), some (.int 1), some (.int 0), none]) (st := []) (c1 := 0) (s1 := 0) (g := (ab_G mi612 ml613)) rfl ⟨trivial, trivial, trivial⟩ hc ?_
                  refine ab_wk 1 (f' := (if r617 = 0 then 186 else 170, [some (.ref 40), some (.int x1), some (.int r3), some (.int 1), some (.int 0), none], [], 0, 0, (ab_G mi615 ml616))) rfl ⟨trivial, trivial⟩ ?_
                  refine ab_wi (fun c => ?_) (fun c => ?_)
                  · have h := h.1 c
                    refine ab_wk 2 (f' := (if (0 : Int32) = 0 then 198 else 191, [some (.ref 40), some (.int x1), some (.int r3), some (.int 1), some (.int 0), none], [], 0, 0, (ab_G mi615 ml616))) rfl ⟨trivial, trivial, trivial⟩ ?_
                    refine ab_wit (c := ((0 : Int32) = 0)) (by decide) ?_
                    obtain ⟨r620, mi618, ml619, hc, h⟩ := h
                    refine ab_wc 3 (c := 155) (as := [.ref 40, .int 5]) (pc := 203) (ll := [some (.ref 40), some (.int x1), some (.int r3), some (.int 1), some (.int 0), none]) (st := []) (c1 := 0) (s1 := 0) (g := (ab_G mi615 ml616)) rfl ⟨trivial, trivial, trivial⟩ hc ?_
                    refine ab_wk 10 (f' := (if r3 < 0 then 220 else 224, [some (.ref 40), some (.int x1), some (.int r3), some (.int 1), some (.int 0), some (.int r620)], [.ref 40], 0, 0, (ab_G (ab_ui mi618 40 7 ((mi618 40 7) + 1)) ml619))) rfl ⟨trivial, trivial, trivial, trivial, trivial, trivial, trivial, trivial, trivial, trivial, trivial⟩ ?_
                    refine ab_wi (fun c => ?_) (fun c => ?_)
                    · have h := h.1 c
                      refine ab_wk 4 (f' := (if r3 < 0 then 231 else 244, [some (.ref 40), some (.int x1), some (.int r3), some (.int 1), some (.int 0), some (.int r620)], [.int 0, .ref 40], 0, 0, (ab_G (ab_ui mi618 40 7 ((mi618 40 7) + 1)) ml619))) rfl ⟨trivial, trivial, trivial, trivial, trivial⟩ ?_
                      refine ab_wi (fun c => ?_) (fun c => ?_)
                      · have h := h.1 c
                        refine ab_wk 2 (f' := (if r620 = 0 then 240 else 236, [some (.ref 40), some (.int x1), some (.int r3), some (.int 1), some (.int 0), some (.int r620)], [.int 0, .ref 40], 0, 0, (ab_G (ab_ui mi618 40 7 ((mi618 40 7) + 1)) ml619))) rfl ⟨trivial, trivial, trivial⟩ ?_
                        refine ab_wi (fun c => ?_) (fun c => ?_)
                        · have h := h.1 c
                          obtain ⟨mi621, ml622, hc, h⟩ := h
                          refine ab_wc 4 (c := 162) (as := [.ref 40, .int 0, .int 0, .int 0]) (pc := 249) (ll := [some (.ref 40), some (.int x1), some (.int r3), some (.int 1), some (.int 0), some (.int r620)]) (st := []) (c1 := 0) (s1 := 0) (g := (ab_G (ab_ui mi618 40 7 ((mi618 40 7) + 1)) ml619)) rfl ⟨trivial, trivial, trivial, trivial⟩ hc ?_
                          exact ab_wr 1 rfl trivial h
                        · have h := h.2 c
                          obtain ⟨mi623, ml624, hc, h⟩ := h
                          refine ab_wc 4 (c := 162) (as := [.ref 40, .int 0, .int 1, .int 0]) (pc := 249) (ll := [some (.ref 40), some (.int x1), some (.int r3), some (.int 1), some (.int 0), some (.int r620)]) (st := []) (c1 := 0) (s1 := 0) (g := (ab_G (ab_ui mi618 40 7 ((mi618 40 7) + 1)) ml619)) rfl ⟨trivial, trivial, trivial, trivial⟩ hc ?_
                          exact ab_wr 1 rfl trivial h
                      · have h := h.2 c
                        obtain ⟨mi625, ml626, hc, h⟩ := h
                        refine ab_wc 3 (c := 162) (as := [.ref 40, .int 0, .int 1, .int 0]) (pc := 249) (ll := [some (.ref 40), some (.int x1), some (.int r3), some (.int 1), some (.int 0), some (.int r620)]) (st := []) (c1 := 0) (s1 := 0) (g := (ab_G (ab_ui mi618 40 7 ((mi618 40 7) + 1)) ml619)) rfl ⟨trivial, trivial, trivial⟩ hc ?_
                        exact ab_wr 1 rfl trivial h
                    · have h := h.2 c
                      refine ab_wk 5 (f' := (if r3 < 0 then 231 else 244, [some (.ref 40), some (.int x1), some (.int r3), some (.int 1), some (.int 0), some (.int r620)], [.int ((1 : Int32) <<< (r3 &&& 31)), .ref 40], 0, 0, (ab_G (ab_ui mi618 40 7 ((mi618 40 7) + 1)) ml619))) rfl ⟨trivial, trivial, trivial, trivial, trivial, trivial⟩ ?_
                      refine ab_wi (fun c => ?_) (fun c => ?_)
                      · have h := h.1 c
                        refine ab_wk 2 (f' := (if r620 = 0 then 240 else 236, [some (.ref 40), some (.int x1), some (.int r3), some (.int 1), some (.int 0), some (.int r620)], [.int ((1 : Int32) <<< (r3 &&& 31)), .ref 40], 0, 0, (ab_G (ab_ui mi618 40 7 ((mi618 40 7) + 1)) ml619))) rfl ⟨trivial, trivial, trivial⟩ ?_
                        refine ab_wi (fun c => ?_) (fun c => ?_)
                        · have h := h.1 c
                          obtain ⟨mi627, ml628, hc, h⟩ := h
                          refine ab_wc 4 (c := 162) (as := [.ref 40, .int ((1 : Int32) <<< (r3 &&& 31)), .int 0, .int 0]) (pc := 249) (ll := [some (.ref 40), some (.int x1), some (.int r3), some (.int 1), some (.int 0), some (.int r620)]) (st := []) (c1 := 0) (s1 := 0) (g := (ab_G (ab_ui mi618 40 7 ((mi618 40 7) + 1)) ml619)) rfl ⟨trivial, trivial, trivial, trivial⟩ hc ?_
                          exact ab_wr 1 rfl trivial h
                        · have h := h.2 c
                          obtain ⟨mi629, ml630, hc, h⟩ := h
                          refine ab_wc 4 (c := 162) (as := [.ref 40, .int ((1 : Int32) <<< (r3 &&& 31)), .int 1, .int 0]) (pc := 249) (ll := [some (.ref 40), some (.int x1), some (.int r3), some (.int 1), some (.int 0), some (.int r620)]) (st := []) (c1 := 0) (s1 := 0) (g := (ab_G (ab_ui mi618 40 7 ((mi618 40 7) + 1)) ml619)) rfl ⟨trivial, trivial, trivial, trivial⟩ hc ?_
                          exact ab_wr 1 rfl trivial h
                      · have h := h.2 c
                        obtain ⟨mi631, ml632, hc, h⟩ := h
                        refine ab_wc 3 (c := 162) (as := [.ref 40, .int ((1 : Int32) <<< (r3 &&& 31)), .int 1, .int 0]) (pc := 249) (ll := [some (.ref 40), some (.int x1), some (.int r3), some (.int 1), some (.int 0), some (.int r620)]) (st := []) (c1 := 0) (s1 := 0) (g := (ab_G (ab_ui mi618 40 7 ((mi618 40 7) + 1)) ml619)) rfl ⟨trivial, trivial, trivial⟩ hc ?_
                        exact ab_wr 1 rfl trivial h
                  · have h := h.2 c
                    obtain ⟨mi633, ml634, hc, h⟩ := h
                    refine ab_wc 5 (c := 163) (as := [.ref 40, .int (x1 + 1)]) (pc := 177) (ll := [some (.ref 40), some (.int x1), some (.int r3), some (.int 1), some (.int 0), none]) (st := []) (c1 := 0) (s1 := 0) (g := (ab_G mi615 ml616)) rfl ⟨trivial, trivial, trivial, trivial, trivial⟩ hc ?_
                    obtain ⟨mi635, ml636, hc, h⟩ := h
                    refine ab_wc 3 (c := 156) (as := [.ref 40, .int 41]) (pc := 183) (ll := [some (.ref 40), some (.int x1), some (.int r3), some (.int 1), some (.int 0), none]) (st := []) (c1 := 0) (s1 := 0) (g := (ab_G mi633 ml634)) rfl ⟨trivial, trivial, trivial⟩ hc ?_
                    exact ab_wr 2 rfl ⟨trivial, trivial⟩ h
                · have h := h.2 c
                  obtain ⟨mi637, ml638, hc, h⟩ := h
                  refine ab_wc 5 (c := 166) (as := [.ref 40, .int (x1 + 1)]) (pc := 134) (ll := [some (.ref 40), some (.int x1), some (.int r3), some (.int 1), some (.int 0), none]) (st := []) (c1 := 0) (s1 := 0) (g := (ab_G mi612 ml613)) rfl ⟨trivial, trivial, trivial, trivial, trivial⟩ hc ?_
                  exact ab_wr 14 rfl ⟨trivial, trivial, trivial, trivial, trivial, trivial, trivial, trivial, trivial, trivial, trivial, trivial, trivial, trivial⟩ h
          · have h := h.2 c
            refine ab_wk 3 (f' := (if x1 = 6 then 105 else 110, [some (.ref 40), some (.int x1), some (.int r3), some (.int 1), some (.int 0), none], [], 0, 0, (ab_G mi580 ml581))) rfl ⟨trivial, trivial, trivial, trivial⟩ ?_
            refine ab_wi (fun c => ?_) (fun c => ?_)
            · have h := h.1 c
              obtain ⟨mi639, ml640, hc, h⟩ := h
              refine ab_wc 3 (c := 153) (as := [.ref 40, .int 5]) (pc := 110) (ll := [some (.ref 40), some (.int x1), some (.int r3), some (.int 1), some (.int 0), none]) (st := []) (c1 := 0) (s1 := 0) (g := (ab_G mi580 ml581)) rfl ⟨trivial, trivial, trivial⟩ hc ?_
              refine ab_wk 3 (f' := (if 0 < (mi639 40 8) then 117 else 118, [some (.ref 40), some (.int x1), some (.int r3), some (.int 1), some (.int 0), none], [], 0, 0, (ab_G mi639 ml640))) rfl ⟨trivial, trivial, trivial, trivial⟩ ?_
              refine ab_wi (fun c => ?_) (fun c => ?_)
              · have h := h.1 c
                exact ab_wr 1 rfl trivial h
              · have h := h.2 c
                obtain ⟨r643, mi641, ml642, hc, h⟩ := h
                refine ab_wc 3 (c := 158) (as := [.ref 40, .int 6]) (pc := 124) (ll := [some (.ref 40), some (.int x1), some (.int r3), some (.int 1), some (.int 0), none]) (st := []) (c1 := 0) (s1 := 0) (g := (ab_G mi639 ml640)) rfl ⟨trivial, trivial, trivial⟩ hc ?_
                refine ab_wk 1 (f' := (if r643 = 0 then 161 else 127, [some (.ref 40), some (.int x1), some (.int r3), some (.int 1), some (.int 0), none], [], 0, 0, (ab_G mi641 ml642))) rfl ⟨trivial, trivial⟩ ?_
                refine ab_wi (fun c => ?_) (fun c => ?_)
                · have h := h.1 c
                  obtain ⟨r646, mi644, ml645, hc, h⟩ := h
                  refine ab_wc 3 (c := 157) (as := [.ref 40, .int 40]) (pc := 167) (ll := [some (.ref 40), some (.int x1), some (.int r3), some (.int 1), some (.int 0), none]) (st := []) (c1 := 0) (s1 := 0) (g := (ab_G mi641 ml642)) rfl ⟨trivial, trivial, trivial⟩ hc ?_
                  refine ab_wk 1 (f' := (if r646 = 0 then 186 else 170, [some (.ref 40), some (.int x1), some (.int r3), some (.int 1), some (.int 0), none], [], 0, 0, (ab_G mi644 ml645))) rfl ⟨trivial, trivial⟩ ?_
                  refine ab_wi (fun c => ?_) (fun c => ?_)
                  · have h := h.1 c
                    refine ab_wk 2 (f' := (if (0 : Int32) = 0 then 198 else 191, [some (.ref 40), some (.int x1), some (.int r3), some (.int 1), some (.int 0), none], [], 0, 0, (ab_G mi644 ml645))) rfl ⟨trivial, trivial, trivial⟩ ?_
                    refine ab_wit (c := ((0 : Int32) = 0)) (by decide) ?_
                    obtain ⟨r649, mi647, ml648, hc, h⟩ := h
                    refine ab_wc 3 (c := 155) (as := [.ref 40, .int 5]) (pc := 203) (ll := [some (.ref 40), some (.int x1), some (.int r3), some (.int 1), some (.int 0), none]) (st := []) (c1 := 0) (s1 := 0) (g := (ab_G mi644 ml645)) rfl ⟨trivial, trivial, trivial⟩ hc ?_
                    refine ab_wk 10 (f' := (if r3 < 0 then 220 else 224, [some (.ref 40), some (.int x1), some (.int r3), some (.int 1), some (.int 0), some (.int r649)], [.ref 40], 0, 0, (ab_G (ab_ui mi647 40 7 ((mi647 40 7) + 1)) ml648))) rfl ⟨trivial, trivial, trivial, trivial, trivial, trivial, trivial, trivial, trivial, trivial, trivial⟩ ?_
                    refine ab_wi (fun c => ?_) (fun c => ?_)
                    · have h := h.1 c
                      refine ab_wk 4 (f' := (if r3 < 0 then 231 else 244, [some (.ref 40), some (.int x1), some (.int r3), some (.int 1), some (.int 0), some (.int r649)], [.int 0, .ref 40], 0, 0, (ab_G (ab_ui mi647 40 7 ((mi647 40 7) + 1)) ml648))) rfl ⟨trivial, trivial, trivial, trivial, trivial⟩ ?_
                      refine ab_wi (fun c => ?_) (fun c => ?_)
                      · have h := h.1 c
                        refine ab_wk 2 (f' := (if r649 = 0 then 240 else 236, [some (.ref 40), some (.int x1), some (.int r3), some (.int 1), some (.int 0), some (.int r649)], [.int 0, .ref 40], 0, 0, (ab_G (ab_ui mi647 40 7 ((mi647 40 7) + 1)) ml648))) rfl ⟨trivial, trivial, trivial⟩ ?_
                        refine ab_wi (fun c => ?_) (fun c => ?_)
                        · have h := h.1 c
                          obtain ⟨mi650, ml651, hc, h⟩ := h
                          refine ab_wc 4 (c := 162) (as := [.ref 40, .int 0, .int 0, .int 0]) (pc := 249) (ll := [some (.ref 40), some (.int x1), some (.int r3), some (.int 1), some (.int 0), some (.int r649)]) (st := []) (c1 := 0) (s1 := 0) (g := (ab_G (ab_ui mi647 40 7 ((mi647 40 7) + 1)) ml648)) rfl ⟨trivial, trivial, trivial, trivial⟩ hc ?_
                          exact ab_wr 1 rfl trivial h
                        · have h := h.2 c
                          obtain ⟨mi652, ml653, hc, h⟩ := h
                          refine ab_wc 4 (c := 162) (as := [.ref 40, .int 0, .int 1, .int 0]) (pc := 249) (ll := [some (.ref 40), some (.int x1), some (.int r3), some (.int 1), some (.int 0), some (.int r649)]) (st := []) (c1 := 0) (s1 := 0) (g := (ab_G (ab_ui mi647 40 7 ((mi647 40 7) + 1)) ml648)) rfl ⟨trivial, trivial, trivial, trivial⟩ hc ?_
                          exact ab_wr 1 rfl trivial h
                      · have h := h.2 c
                        obtain ⟨mi654, ml655, hc, h⟩ := h
                        refine ab_wc 3 (c := 162) (as := [.ref 40, .int 0, .int 1, .int 0]) (pc := 249) (ll := [some (.ref 40), some (.int x1), some (.int r3), some (.int 1), some (.int 0), some (.int r649)]) (st := []) (c1 := 0) (s1 := 0) (g := (ab_G (ab_ui mi647 40 7 ((mi647 40 7) + 1)) ml648)) rfl ⟨trivial, trivial, trivial⟩ hc ?_
                        exact ab_wr 1 rfl trivial h
                    · have h := h.2 c
                      refine ab_wk 5 (f' := (if r3 < 0 then 231 else 244, [some (.ref 40), some (.int x1), some (.int r3), some (.int 1), some (.int 0), some (.int r649)], [.int ((1 : Int32) <<< (r3 &&& 31)), .ref 40], 0, 0, (ab_G (ab_ui mi647 40 7 ((mi647 40 7) + 1)) ml648))) rfl ⟨trivial, trivial, trivial, trivial, trivial, trivial⟩ ?_
                      refine ab_wi (fun c => ?_) (fun c => ?_)
                      · have h := h.1 c
                        refine ab_wk 2 (f' := (if r649 = 0 then 240 else 236, [some (.ref 40), some (.int x1), some (.int r3), some (.int 1), some (.int 0), some (.int r649)], [.int ((1 : Int32) <<< (r3 &&& 31)), .ref 40], 0, 0, (ab_G (ab_ui mi647 40 7 ((mi647 40 7) + 1)) ml648))) rfl ⟨trivial, trivial, trivial⟩ ?_
                        refine ab_wi (fun c => ?_) (fun c => ?_)
                        · have h := h.1 c
                          obtain ⟨mi656, ml657, hc, h⟩ := h
                          refine ab_wc 4 (c := 162) (as := [.ref 40, .int ((1 : Int32) <<< (r3 &&& 31)), .int 0, .int 0]) (pc := 249) (ll := [some (.ref 40), some (.int x1), some (.int r3), some (.int 1), some (.int 0), some (.int r649)]) (st := []) (c1 := 0) (s1 := 0) (g := (ab_G (ab_ui mi647 40 7 ((mi647 40 7) + 1)) ml648)) rfl ⟨trivial, trivial, trivial, trivial⟩ hc ?_
                          exact ab_wr 1 rfl trivial h
                        · have h := h.2 c
                          obtain ⟨mi658, ml659, hc, h⟩ := h
                          refine ab_wc 4 (c := 162) (as := [.ref 40, .int ((1 : Int32) <<< (r3 &&& 31)), .int 1, .int 0]) (pc := 249) (ll := [some (.ref 40), some (.int x1), some (.int r3), some (.int 1), some (.int 0), some (.int r649)]) (st := []) (c1 := 0) (s1 := 0) (g := (ab_G (ab_ui mi647 40 7 ((mi647 40 7) + 1)) ml648)) rfl ⟨trivial, trivial, trivial, trivial⟩ hc ?_
                          exact ab_wr 1 rfl trivial h
                      · have h := h.2 c
                        obtain ⟨mi660, ml661, hc, h⟩ := h
                        refine ab_wc 3 (c := 162) (as := [.ref 40, .int ((1 : Int32) <<< (r3 &&& 31)), .int 1, .int 0]) (pc := 249) (ll := [some (.ref 40), some (.int x1), some (.int r3), some (.int 1), some (.int 0), some (.int r649)]) (st := []) (c1 := 0) (s1 := 0) (g := (ab_G (ab_ui mi647 40 7 ((mi647 40 7) + 1)) ml648)) rfl ⟨trivial, trivial, trivial⟩ hc ?_
                        exact ab_wr 1 rfl trivial h
                  · have h := h.2 c
                    obtain ⟨mi662, ml663, hc, h⟩ := h
                    refine ab_wc 5 (c := 163) (as := [.ref 40, .int (x1 + 1)]) (pc := 177) (ll := [some (.ref 40), some (.int x1), some (.int r3), some (.int 1), some (.int 0), none]) (st := []) (c1 := 0) (s1 := 0) (g := (ab_G mi644 ml645)) rfl ⟨trivial, trivial, trivial, trivial, trivial⟩ hc ?_
                    obtain ⟨mi664, ml665, hc, h⟩ := h
                    refine ab_wc 3 (c := 156) (as := [.ref 40, .int 41]) (pc := 183) (ll := [some (.ref 40), some (.int x1), some (.int r3), some (.int 1), some (.int 0), none]) (st := []) (c1 := 0) (s1 := 0) (g := (ab_G mi662 ml663)) rfl ⟨trivial, trivial, trivial⟩ hc ?_
                    exact ab_wr 2 rfl ⟨trivial, trivial⟩ h
                · have h := h.2 c
                  obtain ⟨mi666, ml667, hc, h⟩ := h
                  refine ab_wc 5 (c := 166) (as := [.ref 40, .int (x1 + 1)]) (pc := 134) (ll := [some (.ref 40), some (.int x1), some (.int r3), some (.int 1), some (.int 0), none]) (st := []) (c1 := 0) (s1 := 0) (g := (ab_G mi641 ml642)) rfl ⟨trivial, trivial, trivial, trivial, trivial⟩ hc ?_
                  exact ab_wr 14 rfl ⟨trivial, trivial, trivial, trivial, trivial, trivial, trivial, trivial, trivial, trivial, trivial, trivial, trivial, trivial⟩ h
            · have h := h.2 c
              refine ab_wk 3 (f' := (if 0 < (mi580 40 8) then 117 else 118, [some (.ref 40), some (.int x1), some (.int r3), some (.int 1), some (.int 0), none], [], 0, 0, (ab_G mi580 ml581))) rfl ⟨trivial, trivial, trivial, trivial⟩ ?_
              refine ab_wi (fun c => ?_) (fun c => ?_)
              · have h := h.1 c
                exact ab_wr 1 rfl trivial h
              · have h := h.2 c
                obtain ⟨r670, mi668, ml669, hc, h⟩ := h
                refine ab_wc 3 (c := 158) (as := [.ref 40, .int 6]) (pc := 124) (ll := [some (.ref 40), some (.int x1), some (.int r3), some (.int 1), some (.int 0), none]) (st := []) (c1 := 0) (s1 := 0) (g := (ab_G mi580 ml581)) rfl ⟨trivial, trivial, trivial⟩ hc ?_
                refine ab_wk 1 (f' := (if r670 = 0 then 161 else 127, [some (.ref 40), some (.int x1), some (.int r3), some (.int 1), some (.int 0), none], [], 0, 0, (ab_G mi668 ml669))) rfl ⟨trivial, trivial⟩ ?_
                refine ab_wi (fun c => ?_) (fun c => ?_)
                · have h := h.1 c
                  obtain ⟨r673, mi671, ml672, hc, h⟩ := h
                  refine ab_wc 3 (c := 157) (as := [.ref 40, .int 40]) (pc := 167) (ll := [some (.ref 40), some (.int x1), some (.int r3), some (.int 1), some (.int 0), none]) (st := []) (c1 := 0) (s1 := 0) (g := (ab_G mi668 ml669)) rfl ⟨trivial, trivial, trivial⟩ hc ?_
                  refine ab_wk 1 (f' := (if r673 = 0 then 186 else 170, [some (.ref 40), some (.int x1), some (.int r3), some (.int 1), some (.int 0), none], [], 0, 0, (ab_G mi671 ml672))) rfl ⟨trivial, trivial⟩ ?_
                  refine ab_wi (fun c => ?_) (fun c => ?_)
                  · have h := h.1 c
                    refine ab_wk 2 (f' := (if (0 : Int32) = 0 then 198 else 191, [some (.ref 40), some (.int x1), some (.int r3), some (.int 1), some (.int 0), none], [], 0, 0, (ab_G mi671 ml672))) rfl ⟨trivial, trivial, trivial⟩ ?_
                    refine ab_wit (c := ((0 : Int32) = 0)) (by decide) ?_
                    obtain ⟨r676, mi674, ml675, hc, h⟩ := h
                    refine ab_wc 3 (c := 155) (as := [.ref 40, .int 5]) (pc := 203) (ll := [some (.ref 40), some (.int x1), some (.int r3), some (.int 1), some (.int 0), none]) (st := []) (c1 := 0) (s1 := 0) (g := (ab_G mi671 ml672)) rfl ⟨trivial, trivial, trivial⟩ hc ?_
                    refine ab_wk 10 (f' := (if r3 < 0 then 220 else 224, [some (.ref 40), some (.int x1), some (.int r3), some (.int 1), some (.int 0), some (.int r676)], [.ref 40], 0, 0, (ab_G (ab_ui mi674 40 7 ((mi674 40 7) + 1)) ml675))) rfl ⟨trivial, trivial, trivial, trivial, trivial, trivial, trivial, trivial, trivial, trivial, trivial⟩ ?_
                    refine ab_wi (fun c => ?_) (fun c => ?_)
                    · have h := h.1 c
                      refine ab_wk 4 (f' := (if r3 < 0 then 231 else 244, [some (.ref 40), some (.int x1), some (.int r3), some (.int 1), some (.int 0), some (.int r676)], [.int 0, .ref 40], 0, 0, (ab_G (ab_ui mi674 40 7 ((mi674 40 7) + 1)) ml675))) rfl ⟨trivial, trivial, trivial, trivial, trivial⟩ ?_
                      refine ab_wi (fun c => ?_) (fun c => ?_)
                      · have h := h.1 c
                        refine ab_wk 2 (f' := (if r676 = 0 then 240 else 236, [some (.ref 40), some (.int x1), some (.int r3), some (.int 1), some (.int 0), some (.int r676)], [.int 0, .ref 40], 0, 0, (ab_G (ab_ui mi674 40 7 ((mi674 40 7) + 1)) ml675))) rfl ⟨trivial, trivial, trivial⟩ ?_
                        refine ab_wi (fun c => ?_) (fun c => ?_)
                        · have h := h.1 c
                          obtain ⟨mi677, ml678, hc, h⟩ := h
                          refine ab_wc 4 (c := 162) (as := [.ref 40, .int 0, .int 0, .int 0]) (pc := 249) (ll := [some (.ref 40), some (.int x1), some (.int r3), some (.int 1), some (.int 0), some (.int r676)]) (st := []) (c1 := 0) (s1 := 0) (g := (ab_G (ab_ui mi674 40 7 ((mi674 40 7) + 1)) ml675)) rfl ⟨trivial, trivial, trivial, trivial⟩ hc ?_
                          exact ab_wr 1 rfl trivial h
                        · have h := h.2 c
                          obtain ⟨mi679, ml680, hc, h⟩ := h
                          refine ab_wc 4 (c := 162) (as := [.ref 40, .int 0, .int 1, .int 0]) (pc := 249) (ll := [some (.ref 40), some (.int x1), some (.int r3), some (.int 1), some (.int 0), some (.int r676)]) (st := []) (c1 := 0) (s1 := 0) (g := (ab_G (ab_ui mi674 40 7 ((mi674 40 7) + 1)) ml675)) rfl ⟨trivial, trivial, trivial, trivial⟩ hc ?_
                          exact ab_wr 1 rfl trivial h
                      · have h := h.2 c
                        obtain ⟨mi681, ml682, hc, h⟩ := h
                        refine ab_wc 3 (c := 162) (as := [.ref 40, .int 0, .int 1, .int 0]) (pc := 249) (ll := [some (.ref 40), some (.int x1), some (.int r3), some (.int 1), some (.int 0), some (.int r676)]) (st := []) (c1 := 0) (s1 := 0) (g := (ab_G (ab_ui mi674 40 7 ((mi674 40 7) + 1)) ml675)) rfl ⟨trivial, trivial, trivial⟩ hc ?_
                        exact ab_wr 1 rfl trivial h
                    · have h := h.2 c
                      refine ab_wk 5 (f' := (if r3 < 0 then 231 else 244, [some (.ref 40), some (.int x1), some (.int r3), some (.int 1), some (.int 0), some (.int r676)], [.int ((1 : Int32) <<< (r3 &&& 31)), .ref 40], 0, 0, (ab_G (ab_ui mi674 40 7 ((mi674 40 7) + 1)) ml675))) rfl ⟨trivial, trivial, trivial, trivial, trivial, trivial⟩ ?_
                      refine ab_wi (fun c => ?_) (fun c => ?_)
                      · have h := h.1 c
                        refine ab_wk 2 (f' := (if r676 = 0 then 240 else 236, [some (.ref 40), some (.int x1), some (.int r3), some (.int 1), some (.int 0), some (.int r676)], [.int ((1 : Int32) <<< (r3 &&& 31)), .ref 40], 0, 0, (ab_G (ab_ui mi674 40 7 ((mi674 40 7) + 1)) ml675))) rfl ⟨trivial, trivial, trivial⟩ ?_
                        refine ab_wi (fun c => ?_) (fun c => ?_)
                        · have h := h.1 c
                          obtain ⟨mi683, ml684, hc, h⟩ := h
                          refine ab_wc 4 (c := 162) (as := [.ref 40, .int ((1 : Int32) <<< (r3 &&& 31)), .int 0, .int 0]) (pc := 249) (ll := [some (.ref 40), some (.int x1), some (.int r3), some (.int 1), some (.int 0), some (.int r676)]) (st := []) (c1 := 0) (s1 := 0) (g := (ab_G (ab_ui mi674 40 7 ((mi674 40 7) + 1)) ml675)) rfl ⟨trivial, trivial, trivial, trivial⟩ hc ?_
                          exact ab_wr 1 rfl trivial h
                        · have h := h.2 c
                          obtain ⟨mi685, ml686, hc, h⟩ := h
                          refine ab_wc 4 (c := 162) (as := [.ref 40, .int ((1 : Int32) <<< (r3 &&& 31)), .int 1, .int 0]) (pc := 249) (ll := [some (.ref 40), some (.int x1), some (.int r3), some (.int 1), some (.int 0), some (.int r676)]) (st := []) (c1 := 0) (s1 := 0) (g := (ab_G (ab_ui mi674 40 7 ((mi674 40 7) + 1)) ml675)) rfl ⟨trivial, trivial, trivial, trivial⟩ hc ?_
                          exact ab_wr 1 rfl trivial h
                      · have h := h.2 c
                        obtain ⟨mi687, ml688, hc, h⟩ := h
                        refine ab_wc 3 (c := 162) (as := [.ref 40, .int ((1 : Int32) <<< (r3 &&& 31)), .int 1, .int 0]) (pc := 249) (ll := [some (.ref 40), some (.int x1), some (.int r3), some (.int 1), some (.int 0), some (.int r676)]) (st := []) (c1 := 0) (s1 := 0) (g := (ab_G (ab_ui mi674 40 7 ((mi674 40 7) + 1)) ml675)) rfl ⟨trivial, trivial, trivial⟩ hc ?_
                        exact ab_wr 1 rfl trivial h
                  · have h := h.2 c
                    obtain ⟨mi689, ml690, hc, h⟩ := h
                    refine ab_wc 5 (c := 163) (as := [.ref 40, .int (x1 + 1)]) (pc := 177) (ll := [some (.ref 40), some (.int x1), some (.int r3), some (.int 1), some (.int 0), none]) (st := []) (c1 := 0) (s1 := 0) (g := (ab_G mi671 ml672)) rfl ⟨trivial, trivial, trivial, trivial, trivial⟩ hc ?_
                    obtain ⟨mi691, ml692, hc, h⟩ := h
                    refine ab_wc 3 (c := 156) (as := [.ref 40, .int 41]) (pc := 183) (ll := [some (.ref 40), some (.int x1), some (.int r3), some (.int 1), some (.int 0), none]) (st := []) (c1 := 0) (s1 := 0) (g := (ab_G mi689 ml690)) rfl ⟨trivial, trivial, trivial⟩ hc ?_
                    exact ab_wr 2 rfl ⟨trivial, trivial⟩ h
                · have h := h.2 c
                  obtain ⟨mi693, ml694, hc, h⟩ := h
                  refine ab_wc 5 (c := 166) (as := [.ref 40, .int (x1 + 1)]) (pc := 134) (ll := [some (.ref 40), some (.int x1), some (.int r3), some (.int 1), some (.int 0), none]) (st := []) (c1 := 0) (s1 := 0) (g := (ab_G mi668 ml669)) rfl ⟨trivial, trivial, trivial, trivial, trivial⟩ hc ?_
                  exact ab_wr 14 rfl ⟨trivial, trivial, trivial, trivial, trivial, trivial, trivial, trivial, trivial, trivial, trivial, trivial, trivial, trivial⟩ h
        · have h := h.2 c
          refine ab_wk 5 (f' := (if r3 < 0 then 64 else 99, [some (.ref 40), some (.int x1), some (.int r3), some (.int 1), some (.int 1), none], [], 0, 0, (ab_G mi580 ml581))) rfl ⟨trivial, trivial, trivial, trivial, trivial, trivial⟩ ?_
          refine ab_wi (fun c => ?_) (fun c => ?_)
          · have h := h.1 c
            refine ab_wk 2 (f' := (if (1 : Int32) = 0 then 68 else 99, [some (.ref 40), some (.int x1), some (.int r3), some (.int 1), some (.int 1), none], [], 0, 0, (ab_G mi580 ml581))) rfl ⟨trivial, trivial, trivial⟩ ?_
            refine ab_wif (c := ((1 : Int32) = 0)) (by decide) ?_
            refine ab_wk 3 (f' := (if x1 = 6 then 105 else 110, [some (.ref 40), some (.int x1), some (.int r3), some (.int 1), some (.int 1), none], [], 0, 0, (ab_G mi580 ml581))) rfl ⟨trivial, trivial, trivial, trivial⟩ ?_
            refine ab_wi (fun c => ?_) (fun c => ?_)
            · have h := h.1 c
              obtain ⟨mi695, ml696, hc, h⟩ := h
              refine ab_wc 3 (c := 153) (as := [.ref 40, .int 5]) (pc := 110) (ll := [some (.ref 40), some (.int x1), some (.int r3), some (.int 1), some (.int 1), none]) (st := []) (c1 := 0) (s1 := 0) (g := (ab_G mi580 ml581)) rfl ⟨trivial, trivial, trivial⟩ hc ?_
              refine ab_wk 3 (f' := (if 0 < (mi695 40 8) then 117 else 118, [some (.ref 40), some (.int x1), some (.int r3), some (.int 1), some (.int 1), none], [], 0, 0, (ab_G mi695 ml696))) rfl ⟨trivial, trivial, trivial, trivial⟩ ?_
              refine ab_wi (fun c => ?_) (fun c => ?_)
              · have h := h.1 c
                exact ab_wr 1 rfl trivial h
              · have h := h.2 c
                obtain ⟨r699, mi697, ml698, hc, h⟩ := h
                refine ab_wc 3 (c := 158) (as := [.ref 40, .int 6]) (pc := 124) (ll := [some (.ref 40), some (.int x1), some (.int r3), some (.int 1), some (.int 1), none]) (st := []) (c1 := 0) (s1 := 0) (g := (ab_G mi695 ml696)) rfl ⟨trivial, trivial, trivial⟩ hc ?_
                refine ab_wk 1 (f' := (if r699 = 0 then 161 else 127, [some (.ref 40), some (.int x1), some (.int r3), some (.int 1), some (.int 1), none], [], 0, 0, (ab_G mi697 ml698))) rfl ⟨trivial, trivial⟩ ?_
                refine ab_wi (fun c => ?_) (fun c => ?_)
                · have h := h.1 c
                  obtain ⟨r702, mi700, ml701, hc, h⟩ := h
                  refine ab_wc 3 (c := 157) (as := [.ref 40, .int 40]) (pc := 167) (ll := [some (.ref 40), some (.int x1), some (.int r3), some (.int 1), some (.int 1), none]) (st := []) (c1 := 0) (s1 := 0) (g := (ab_G mi697 ml698)) rfl ⟨trivial, trivial, trivial⟩ hc ?_
                  refine ab_wk 1 (f' := (if r702 = 0 then 186 else 170, [some (.ref 40), some (.int x1), some (.int r3), some (.int 1), some (.int 1), none], [], 0, 0, (ab_G mi700 ml701))) rfl ⟨trivial, trivial⟩ ?_
                  refine ab_wi (fun c => ?_) (fun c => ?_)
                  · have h := h.1 c
                    refine ab_wk 2 (f' := (if (1 : Int32) = 0 then 198 else 191, [some (.ref 40), some (.int x1), some (.int r3), some (.int 1), some (.int 1), none], [], 0, 0, (ab_G mi700 ml701))) rfl ⟨trivial, trivial, trivial⟩ ?_
                    refine ab_wif (c := ((1 : Int32) = 0)) (by decide) ?_
                    obtain ⟨mi703, ml704, hc, h⟩ := h
                    refine ab_wc 2 (c := 168) (as := [.ref 40]) (pc := 195) (ll := [some (.ref 40), some (.int x1), some (.int r3), some (.int 1), some (.int 1), none]) (st := []) (c1 := 0) (s1 := 0) (g := (ab_G mi700 ml701)) rfl ⟨trivial, trivial⟩ hc ?_
                    exact ab_wr 2 rfl ⟨trivial, trivial⟩ h
                  · have h := h.2 c
                    obtain ⟨mi705, ml706, hc, h⟩ := h
                    refine ab_wc 5 (c := 163) (as := [.ref 40, .int (x1 + 1)]) (pc := 177) (ll := [some (.ref 40), some (.int x1), some (.int r3), some (.int 1), some (.int 1), none]) (st := []) (c1 := 0) (s1 := 0) (g := (ab_G mi700 ml701)) rfl ⟨trivial, trivial, trivial, trivial, trivial⟩ hc ?_
                    obtain ⟨mi707, ml708, hc, h⟩ := h
                    refine ab_wc 3 (c := 156) (as := [.ref 40, .int 41]) (pc := 183) (ll := [some (.ref 40), some (.int x1), some (.int r3), some (.int 1), some (.int 1), none]) (st := []) (c1 := 0) (s1 := 0) (g := (ab_G mi705 ml706)) rfl ⟨trivial, trivial, trivial⟩ hc ?_
                    exact ab_wr 2 rfl ⟨trivial, trivial⟩ h
                · have h := h.2 c
                  obtain ⟨mi709, ml710, hc, h⟩ := h
                  refine ab_wc 5 (c := 166) (as := [.ref 40, .int (x1 + 1)]) (pc := 134) (ll := [some (.ref 40), some (.int x1), some (.int r3), some (.int 1), some (.int 1), none]) (st := []) (c1 := 0) (s1 := 0) (g := (ab_G mi697 ml698)) rfl ⟨trivial, trivial, trivial, trivial, trivial⟩ hc ?_
                  exact ab_wr 14 rfl ⟨trivial, trivial, trivial, trivial, trivial, trivial, trivial, trivial, trivial, trivial, trivial, trivial, trivial, trivial⟩ h
            · have h := h.2 c
              refine ab_wk 3 (f' := (if 0 < (mi580 40 8) then 117 else 118, [some (.ref 40), some (.int x1), some (.int r3), some (.int 1), some (.int 1), none], [], 0, 0, (ab_G mi580 ml581))) rfl ⟨trivial, trivial, trivial, trivial⟩ ?_
              refine ab_wi (fun c => ?_) (fun c => ?_)
              · have h := h.1 c
                exact ab_wr 1 rfl trivial h
              · have h := h.2 c
                obtain ⟨r713, mi711, ml712, hc, h⟩ := h
                refine ab_wc 3 (c := 158) (as := [.ref 40, .int 6]) (pc := 124) (ll := [some (.ref 40), some (.int x1), some (.int r3), some (.int 1), some (.int 1), none]) (st := []) (c1 := 0) (s1 := 0) (g := (ab_G mi580 ml581)) rfl ⟨trivial, trivial, trivial⟩ hc ?_
                refine ab_wk 1 (f' := (if r713 = 0 then 161 else 127, [some (.ref 40), some (.int x1), some (.int r3), some (.int 1), some (.int 1), none], [], 0, 0, (ab_G mi711 ml712))) rfl ⟨trivial, trivial⟩ ?_
                refine ab_wi (fun c => ?_) (fun c => ?_)
                · have h := h.1 c
                  obtain ⟨r716, mi714, ml715, hc, h⟩ := h
                  refine ab_wc 3 (c := 157) (as := [.ref 40, .int 40]) (pc := 167) (ll := [some (.ref 40), some (.int x1), some (.int r3), some (.int 1), some (.int 1), none]) (st := []) (c1 := 0) (s1 := 0) (g := (ab_G mi711 ml712)) rfl ⟨trivial, trivial, trivial⟩ hc ?_
                  refine ab_wk 1 (f' := (if r716 = 0 then 186 else 170, [some (.ref 40), some (.int x1), some (.int r3), some (.int 1), some (.int 1), none], [], 0, 0, (ab_G mi714 ml715))) rfl ⟨trivial, trivial⟩ ?_
                  refine ab_wi (fun c => ?_) (fun c => ?_)
                  · have h := h.1 c
                    refine ab_wk 2 (f' := (if (1 : Int32) = 0 then 198 else 191, [some (.ref 40), some (.int x1), some (.int r3), some (.int 1), some (.int 1), none], [], 0, 0, (ab_G mi714 ml715))) rfl ⟨trivial, trivial, trivial⟩ ?_
                    refine ab_wif (c := ((1 : Int32) = 0)) (by decide) ?_
                    obtain ⟨mi717, ml718, hc, h⟩ := h
                    refine ab_wc 2 (c := 168) (as := [.ref 40]) (pc := 195) (ll := [some (.ref 40), some (.int x1), some (.int r3), some (.int 1), some (.int 1), none]) (st := []) (c1 := 0) (s1 := 0) (g := (ab_G mi714 ml715)) rfl ⟨trivial, trivial⟩ hc ?_
                    exact ab_wr 2 rfl ⟨trivial, trivial⟩ h
                  · have h := h.2 c
                    obtain ⟨mi719, ml720, hc, h⟩ := h
                    refine ab_wc 5 (c := 163) (as := [.ref 40, .int (x1 + 1)]) (pc := 177) (ll := [some (.ref 40), some (.int x1), some (.int r3), some (.int 1), some (.int 1), none]) (st := []) (c1 := 0) (s1 := 0) (g := (ab_G mi714 ml715)) rfl ⟨trivial, trivial, trivial, trivial, trivial⟩ hc ?_
                    obtain ⟨mi721, ml722, hc, h⟩ := h
                    refine ab_wc 3 (c := 156) (as := [.ref 40, .int 41]) (pc := 183) (ll := [some (.ref 40), some (.int x1), some (.int r3), some (.int 1), some (.int 1), none]) (st := []) (c1 := 0) (s1 := 0) (g := (ab_G mi719 ml720)) rfl ⟨trivial, trivial, trivial⟩ hc ?_
                    exact ab_wr 2 rfl ⟨trivial, trivial⟩ h
                · have h := h.2 c
                  obtain ⟨mi723, ml724, hc, h⟩ := h
                  refine ab_wc 5 (c := 166) (as := [.ref 40, .int (x1 + 1)]) (pc := 134) (ll := [some (.ref 40), some (.int x1), some (.int r3), some (.int 1), some (.int 1), none]) (st := []) (c1 := 0) (s1 := 0) (g := (ab_G mi711 ml712)) rfl ⟨trivial, trivial, trivial, trivial, trivial⟩ hc ?_
                  exact ab_wr 14 rfl ⟨trivial, trivial, trivial, trivial, trivial, trivial, trivial, trivial, trivial, trivial, trivial, trivial, trivial, trivial⟩ h
          · have h := h.2 c
            refine ab_wk 3 (f' := (if x1 = 6 then 105 else 110, [some (.ref 40), some (.int x1), some (.int r3), some (.int 1), some (.int 1), none], [], 0, 0, (ab_G mi580 ml581))) rfl ⟨trivial, trivial, trivial, trivial⟩ ?_
            refine ab_wi (fun c => ?_) (fun c => ?_)
            · have h := h.1 c
              obtain ⟨mi725, ml726, hc, h⟩ := h
              refine ab_wc 3 (c := 153) (as := [.ref 40, .int 5]) (pc := 110) (ll := [some (.ref 40), some (.int x1), some (.int r3), some (.int 1), some (.int 1), none]) (st := []) (c1 := 0) (s1 := 0) (g := (ab_G mi580 ml581)) rfl ⟨trivial, trivial, trivial⟩ hc ?_
              refine ab_wk 3 (f' := (if 0 < (mi725 40 8) then 117 else 118, [some (.ref 40), some (.int x1), some (.int r3), some (.int 1), some (.int 1), none], [], 0, 0, (ab_G mi725 ml726))) rfl ⟨trivial, trivial, trivial, trivial⟩ ?_
              refine ab_wi (fun c => ?_) (fun c => ?_)
              · have h := h.1 c
                exact ab_wr 1 rfl trivial h
              · have h := h.2 c
                obtain ⟨r729, mi727, ml728, hc, h⟩ := h
                refine ab_wc 3 (c := 158) (as := [.ref 40, .int 6]) (pc := 124) (ll := [some (.ref 40), some (.int x1), some (.int r3), some (.int 1), some (.int 1), none]) (st := []) (c1 := 0) (s1 := 0) (g := (ab_G mi725 ml726)) rfl ⟨trivial, trivial, trivial⟩ hc ?_
                refine ab_wk 1 (f' := (if r729 = 0 then 161 else 127, [some (.ref 40), some (.int x1), some (.int r3), some (.int 1), some (.int 1), none], [], 0, 0, (ab_G mi727 ml728))) rfl ⟨trivial, trivial⟩ ?_
                refine ab_wi (fun c => ?_) (fun c => ?_)
                · have h := h.1 c
                  obtain ⟨r732, mi730, ml731, hc, h⟩ := h
                  refine ab_wc 3 (c := 157) (as := [.ref 40, .int 40]) (pc := 167) (ll := [some (.ref 40), some (.int x1), some (.int r3), some (.int 1), some (.int 1), none]) (st := []) (c1 := 0) (s1 := 0) (g := (ab_G mi727 ml728)) rfl ⟨trivial, trivial, trivial⟩ hc ?_
                  refine ab_wk 1 (f' := (if r732 = 0 then 186 else 170, [some (.ref 40), some (.int x1), some (.int r3), some (.int 1), some (.int 1), none], [], 0, 0, (ab_G mi730 ml731))) rfl ⟨trivial, trivial⟩ ?_
                  refine ab_wi (fun c => ?_) (fun c => ?_)
                  · have h := h.1 c
                    refine ab_wk 2 (f' := (if (1 : Int32) = 0 then 198 else 191, [some (.ref 40), some (.int x1), some (.int r3), some (.int 1), some (.int 1), none], [], 0, 0, (ab_G mi730 ml731))) rfl ⟨trivial, trivial, trivial⟩ ?_
                    refine ab_wif (c := ((1 : Int32) = 0)) (by decide) ?_
                    obtain ⟨mi733, ml734, hc, h⟩ := h
                    refine ab_wc 2 (c := 168) (as := [.ref 40]) (pc := 195) (ll := [some (.ref 40), some (.int x1), some (.int r3), some (.int 1), some (.int 1), none]) (st := []) (c1 := 0) (s1 := 0) (g := (ab_G mi730 ml731)) rfl ⟨trivial, trivial⟩ hc ?_
                    exact ab_wr 2 rfl ⟨trivial, trivial⟩ h
                  · have h := h.2 c
                    obtain ⟨mi735, ml736, hc, h⟩ := h
                    refine ab_wc 5 (c := 163) (as := [.ref 40, .int (x1 + 1)]) (pc := 177) (ll := [some (.ref 40), some (.int x1), some (.int r3), some (.int 1), some (.int 1), none]) (st := []) (c1 := 0) (s1 := 0) (g := (ab_G mi730 ml731)) rfl ⟨trivial, trivial, trivial, trivial, trivial⟩ hc ?_
                    obtain ⟨mi737, ml738, hc, h⟩ := h
                    refine ab_wc 3 (c := 156) (as := [.ref 40, .int 41]) (pc := 183) (ll := [some (.ref 40), some (.int x1), some (.int r3), some (.int 1), some (.int 1), none]) (st := []) (c1 := 0) (s1 := 0) (g := (ab_G mi735 ml736)) rfl ⟨trivial, trivial, trivial⟩ hc ?_
                    exact ab_wr 2 rfl ⟨trivial, trivial⟩ h
                · have h := h.2 c
                  obtain ⟨mi739, ml740, hc, h⟩ := h
                  refine ab_wc 5 (c := 166) (as := [.ref 40, .int (x1 + 1)]) (pc := 134) (ll := [some (.ref 40), some (.int x1), some (.int r3), some (.int 1), some (.int 1), none]) (st := []) (c1 := 0) (s1 := 0) (g := (ab_G mi727 ml728)) rfl ⟨trivial, trivial, trivial, trivial, trivial⟩ hc ?_
                  exact ab_wr 14 rfl ⟨trivial, trivial, trivial, trivial, trivial, trivial, trivial, trivial, trivial, trivial, trivial, trivial, trivial, trivial⟩ h
            · have h := h.2 c
              refine ab_wk 3 (f' := (if 0 < (mi580 40 8) then 117 else 118, [some (.ref 40), some (.int x1), some (.int r3), some (.int 1), some (.int 1), none], [], 0, 0, (ab_G mi580 ml581))) rfl ⟨trivial, trivial, trivial, trivial⟩ ?_
              refine ab_wi (fun c => ?_) (fun c => ?_)
              · have h := h.1 c
                exact ab_wr 1 rfl trivial h
              · have h := h.2 c
                obtain ⟨r743, mi741, ml742, hc, h⟩ := h
                refine ab_wc 3 (c := 158) (as := [.ref 40, .int 6]) (pc := 124) (ll := [some (.ref 40), some (.int x1), some (.int r3), some (.int 1), some (.int 1), none]) (st := []) (c1 := 0) (s1 := 0) (g := (ab_G mi580 ml581)) rfl ⟨trivial, trivial, trivial⟩ hc ?_
                refine ab_wk 1 (f' := (if r743 = 0 then 161 else 127, [some (.ref 40), some (.int x1), some (.int r3), some (.int 1), some (.int 1), none], [], 0, 0, (ab_G mi741 ml742))) rfl ⟨trivial, trivial⟩ ?_
                refine ab_wi (fun c => ?_) (fun c => ?_)
                · have h := h.1 c
                  obtain ⟨r746, mi744, ml745, hc, h⟩ := h
                  refine ab_wc 3 (c := 157) (as := [.ref 40, .int 40]) (pc := 167) (ll := [some (.ref 40), some (.int x1), some (.int r3), some (.int 1), some (.int 1), none]) (st := []) (c1 := 0) (s1 := 0) (g := (ab_G mi741 ml742)) rfl ⟨trivial, trivial, trivial⟩ hc ?_
                  refine ab_wk 1 (f' := (if r746 = 0 then 186 else 170, [some (.ref 40), some (.int x1), some (.int r3), some (.int 1), some (.int 1), none], [], 0, 0, (ab_G mi744 ml745))) rfl ⟨trivial, trivial⟩ ?_
                  refine ab_wi (fun c => ?_) (fun c => ?_)
                  · have h := h.1 c
                    refine ab_wk 2 (f' := (if (1 : Int32) = 0 then 198 else 191, [some (.ref 40), some (.int x1), some (.int r3), some (.int 1), some (.int 1), none], [], 0, 0, (ab_G mi744 ml745))) rfl ⟨trivial, trivial, trivial⟩ ?_
                    refine ab_wif (c := ((1 : Int32) = 0)) (by decide) ?_
                    obtain ⟨mi747, ml748, hc, h⟩ := h
                    refine ab_wc 2 (c := 168) (as := [.ref 40]) (pc := 195) (ll := [some (.ref 40), some (.int x1), some (.int r3), some (.int 1), some (.int 1), none]) (st := []) (c1 := 0) (s1 := 0) (g := (ab_G mi744 ml745)) rfl ⟨trivial, trivial⟩ hc ?_
                    exact ab_wr 2 rfl ⟨trivial, trivial⟩ h
                  · have h := h.2 c
                    obtain ⟨mi749, ml750, hc, h⟩ := h
                    refine ab_wc 5 (c := 163) (as := [.ref 40, .int (x1 + 1)]) (pc := 177) (ll := [some (.ref 40), some (.int x1), some (.int r3), some (.int 1), some (.int 1), none]) (st := []) (c1 := 0) (s1 := 0) (g := (ab_G mi744 ml745)) rfl ⟨trivial, trivial, trivial, trivial, trivial⟩ hc ?_
                    obtain ⟨mi751, ml752, hc, h⟩ := h
                    refine ab_wc 3 (c := 156) (as := [.ref 40, .int 41]) (pc := 183) (ll := [some (.ref 40), some (.int x1), some (.int r3), some (.int 1), some (.int 1), none]) (st := []) (c1 := 0) (s1 := 0) (g := (ab_G mi749 ml750)) rfl ⟨trivial, trivial, trivial⟩ hc ?_
                    exact ab_wr 2 rfl ⟨trivial, trivial⟩ h
                · have h := h.2 c
                  obtain ⟨mi753, ml754, hc, h⟩ := h
                  refine ab_wc 5 (c := 166) (as := [.ref 40, .int (x1 + 1)]) (pc := 134) (ll := [some (.ref 40), some (.int x1), some (.int r3), some (.int 1), some (.int 1), none]) (st := []) (c1 := 0) (s1 := 0) (g := (ab_G mi741 ml742)) rfl ⟨trivial, trivial, trivial, trivial, trivial⟩ hc ?_
                  exact ab_wr 14 rfl ⟨trivial, trivial, trivial, trivial, trivial, trivial, trivial, trivial, trivial, trivial, trivial, trivial, trivial, trivial⟩ h
      · have h := h.2 c
        refine ab_wk 5 (f' := (if r3 < 0 then 64 else 99, [some (.ref 40), some (.int x1), some (.int r3), some (.int 1), some (.int 1), none], [], 0, 0, (ab_G mi577 ml578))) rfl ⟨trivial, trivial, trivial, trivial, trivial, trivial⟩ ?_
        refine ab_wi (fun c => ?_) (fun c => ?_)
        · have h := h.1 c
          refine ab_wk 2 (f' := (if (1 : Int32) = 0 then 68 else 99, [some (.ref 40), some (.int x1), some (.int r3), some (.int 1), some (.int 1), none], [], 0, 0, (ab_G mi577 ml578))) rfl ⟨trivial, trivial, trivial⟩ ?_
          refine ab_wif (c := ((1 : Int32) = 0)) (by decide) ?_
          refine ab_wk 3 (f' := (if x1 = 6 then 105 else 110, [some (.ref 40), some (.int x1), some (.int r3), some (.int 1), some (.int 1), none], [], 0, 0, (ab_G mi577 ml578))) rfl ⟨trivial, trivial, trivial, trivial⟩ ?_
          refine ab_wi (fun c => ?_) (fun c => ?_)
          · have h := h.1 c
            obtain ⟨mi755, ml756, hc, h⟩ := h
            refine ab_wc 3 (c := 153) (as := [.ref 40, .int 5]) (pc := 110) (ll := [some (.ref 40), some (.int x1), some (.int r3), some (.int 1), some (.int 1), none]) (st := []) (c1 := 0) (s1 := 0) (g := (ab_G mi577 ml578)) rfl ⟨trivial, trivial, trivial⟩ hc ?_
            refine ab_wk 3 (f' := (if 0 < (mi755 40 8) then 117 else 118, [some (.ref 40), some (.int x1), some (.int r3), some (.int 1), some (.int 1), none], [], 0, 0, (ab_G mi755 ml756))) rfl ⟨trivial, trivial, trivial, trivial⟩ ?_
            refine ab_wi (fun c => ?_) (fun c => ?_)
            · have h := h.1 c
              exact ab_wr 1 rfl trivial h
            · have h := h.2 c
              obtain ⟨r759, mi757, ml758, hc, h⟩ := h
              refine ab_wc 3 (c := 158) (as := [.ref 40, .int 6]) (pc := 124) (ll := [some (.ref 40), some (.int x1), some (.int r3), some (.int 1), some (.int 1), none]) (st := []) (c1 := 0) (s1 := 0) (g := (ab_G mi755 ml756)) rfl ⟨trivial, trivial, trivial⟩ hc ?_
              refine ab_wk 1 (f' := (if r759 = 0 then 161 else 127, [some (.ref 40), some (.int x1), some (.int r3), some (.int 1), some (.int 1), none], [], 0, 0, (ab_G mi757 ml758))) rfl ⟨trivial, trivial⟩ ?_
              refine ab_wi (fun c => ?_) (fun c => ?_)
              · have h := h.1 c
                obtain ⟨r762, mi760, ml761, hc, h⟩ := h
                refine ab_wc 3 (c := 157) (as := [.ref 40, .int 40]) (pc := 167) (ll := [some (.ref 40), some (.int x1), some (.int r3), some (.int 1), some (.int 1), none]) (st := []) (c1 := 0) (s1 := 0) (g := (ab_G mi757 ml758)) rfl ⟨trivial, trivial, trivial⟩ hc ?_
                refine ab_wk 1 (f' := (if r762 = 0 then 186 else 170, [some (.ref 40), some (.int x1), some (.int r3), some (.int 1), some (.int 1), none], [], 0, 0, (ab_G mi760 ml761))) rfl ⟨trivial, trivial⟩ ?_
                refine ab_wi (fun c => ?_) (fun c => ?_)
                · have h := h.1 c
                  refine ab_wk 2 (f' := (if (1 : Int32) = 0 then 198 else 191, [some (.ref 40), some (.int x1), some (.int r3), some (.int 1), some (.int 1), none], [], 0, 0, (ab_G mi760 ml761))) rfl ⟨trivial, trivial, trivial⟩ ?_
                  refine ab_wif (c := ((1 : Int32) = 0)) (by decide) ?_
                  obtain ⟨mi763, ml764, hc, h⟩ := h
                  refine ab_wc 2 (c := 168) (as := [.ref 40]) (pc := 195) (ll := [some (.ref 40), some (.int x1), some (.int r3), some (.int 1), some (.int 1), none]) (st := []) (c1 := 0) (s1 := 0) (g := (ab_G mi760 ml761)) rfl ⟨trivial, trivial⟩ hc ?_
                  exact ab_wr 2 rfl ⟨trivial, trivial⟩ h
                · have h := h.2 c
                  obtain ⟨mi765, ml766, hc, h⟩ := h
                  refine ab_wc 5 (c := 163) (as := [.ref 40, .int (x1 + 1)]) (pc := 177) (ll := [some (.ref 40), some (.int x1), some (.int r3), some (.int 1), some (.int 1), none]) (st := []) (c1 := 0) (s1 := 0) (g := (ab_G mi760 ml761)) rfl ⟨trivial, trivial, trivial, trivial, trivial⟩ hc ?_
                  obtain ⟨mi767, ml768, hc, h⟩ := h
                  refine ab_wc 3 (c := 156) (as := [.ref 40, .int 41]) (pc := 183) (ll := [some (.ref 40), some (.int x1), some (.int r3), some (.int 1), some (.int 1), none]) (st := []) (c1 := 0) (s1 := 0) (g := (ab_G mi765 ml766)) rfl ⟨trivial, trivial, trivial⟩ hc ?_
                  exact ab_wr 2 rfl ⟨trivial, trivial⟩ h
              · have h := h.2 c
                obtain ⟨mi769, ml770, hc, h⟩ := h
                refine ab_wc 5 (c := 166) (as := [.ref 40, .int (x1 + 1)]) (pc := 134) (ll := [some (.ref 40), some (.int x1), some (.int r3), some (.int 1), some (.int 1), none]) (st := []) (c1 := 0) (s1 := 0) (g := (ab_G mi757 ml758)) rfl ⟨trivial, trivial, trivial, trivial, trivial⟩ hc ?_
                exact ab_wr 14 rfl ⟨trivial, trivial, trivial, trivial, trivial, trivial, trivial, trivial, trivial, trivial, trivial, trivial, trivial, trivial⟩ h
          · have h := h.2 c
            refine ab_wk 3 (f' := (if 0 < (mi577 40 8) then 117 else 118, [some (.ref 40), some (.int x1), some (.int r3), some (.int 1), some (.int 1), none], [], 0, 0, (ab_G mi577 ml578))) rfl ⟨trivial, trivial, trivial, trivial⟩ ?_
            refine ab_wi (fun c => ?_) (fun c => ?_)
            · have h := h.1 c
              exact ab_wr 1 rfl trivial h
            · have h := h.2 c
              obtain ⟨r773, mi771, ml772, hc, h⟩ := h
              refine ab_wc 3 (c := 158) (as := [.ref 40, .int 6]) (pc := 124) (ll := [some (.ref 40), some (.int x1), some (.int r3), some (.int 1), some (.int 1), none]) (st := []) (c1 := 0) (s1 := 0) (g := (ab_G mi577 ml578)) rfl ⟨trivial, trivial, trivial⟩ hc ?_
              refine ab_wk 1 (f' := (if r773 = 0 then 161 else 127, [some (.ref 40), some (.int x1), some (.int r3), some (.int 1), some (.int 1), none], [], 0, 0, (ab_G mi771 ml772))) rfl ⟨trivial, trivial⟩ ?_
              refine ab_wi (fun c => ?_) (fun c => ?_)
              · have h := h.1 c
                obtain ⟨r776, mi774, ml775, hc, h⟩ := h
                refine ab_wc 3 (c := 157) (as := [.ref 40, .int 40]) (pc := 167) (ll := [some (.ref 40), some (.int x1), some (.int r3), some (.int 1), some (.int 1), none]) (st := []) (c1 := 0) (s1 := 0) (g := (ab_G mi771 ml772)) rfl ⟨trivial, trivial, trivial⟩ hc ?_
                refine ab_wk 1 (f' := (if r776 = 0 then 186 else 170, [some (.ref 40), some (.int x1), some (.int r3), some (.int 1), some (.int 1), none], [], 0, 0, (ab_G mi774 ml775))) rfl ⟨trivial, trivial⟩ ?_
                refine ab_wi (fun c => ?_) (fun c => ?_)
                · have h := h.1 c
                  refine ab_wk 2 (f' := (if (1 : Int32) = 0 then 198 else 191, [some (.ref 40), some (.int x1), some (.int r3), some (.int 1), some (.int 1), none], [], 0, 0, (ab_G mi774 ml775))) rfl ⟨trivial, trivial, trivial⟩ ?_
                  refine ab_wif (c := ((1 : Int32) = 0)) (by decide) ?_
                  obtain ⟨mi777, ml778, hc, h⟩ := h
                  refine ab_wc 2 (c := 168) (as := [.ref 40]) (pc := 195) (ll := [some (.ref 40), some (.int x1), some (.int r3), some (.int 1), some (.int 1), none]) (st := []) (c1 := 0) (s1 := 0) (g := (ab_G mi774 ml775)) rfl ⟨trivial, trivial⟩ hc ?_
                  exact ab_wr 2 rfl ⟨trivial, trivial⟩ h
                · have h := h.2 c
                  obtain ⟨mi779, ml780, hc, h⟩ := h
                  refine ab_wc 5 (c := 163) (as := [.ref 40, .int (x1 + 1)]) (pc := 177) (ll := [some (.ref 40), some (.int x1), some (.int r3), some (.int 1), some (.int 1), none]) (st := []) (c1 := 0) (s1 := 0) (g := (ab_G mi774 ml775)) rfl ⟨trivial, trivial, trivial, trivial, trivial⟩ hc ?_
                  obtain ⟨mi781, ml782, hc, h⟩ := h
                  refine ab_wc 3 (c := 156) (as := [.ref 40, .int 41]) (pc := 183) (ll := [some (.ref 40), some (.int x1), some (.int r3), some (.int 1), some (.int 1), none]) (st := []) (c1 := 0) (s1 := 0) (g := (ab_G mi779 ml780)) rfl ⟨trivial, trivial, trivial⟩ hc ?_
                  exact ab_wr 2 rfl ⟨trivial, trivial⟩ h
              · have h := h.2 c
                obtain ⟨mi783, ml784, hc, h⟩ := h
                refine ab_wc 5 (c := 166) (as := [.ref 40, .int (x1 + 1)]) (pc := 134) (ll := [some (.ref 40), some (.int x1), some (.int r3), some (.int 1), some (.int 1), none]) (st := []) (c1 := 0) (s1 := 0) (g := (ab_G mi771 ml772)) rfl ⟨trivial, trivial, trivial, trivial, trivial⟩ hc ?_
                exact ab_wr 14 rfl ⟨trivial, trivial, trivial, trivial, trivial, trivial, trivial, trivial, trivial, trivial, trivial, trivial, trivial, trivial⟩ h
        · have h := h.2 c
          refine ab_wk 3 (f' := (if x1 = 6 then 105 else 110, [some (.ref 40), some (.int x1), some (.int r3), some (.int 1), some (.int 1), none], [], 0, 0, (ab_G mi577 ml578))) rfl ⟨trivial, trivial, trivial, trivial⟩ ?_
          refine ab_wi (fun c => ?_) (fun c => ?_)
          · have h := h.1 c
            obtain ⟨mi785, ml786, hc, h⟩ := h
            refine ab_wc 3 (c := 153) (as := [.ref 40, .int 5]) (pc := 110) (ll := [some (.ref 40), some (.int x1), some (.int r3), some (.int 1), some (.int 1), none]) (st := []) (c1 := 0) (s1 := 0) (g := (ab_G mi577 ml578)) rfl ⟨trivial, trivial, trivial⟩ hc ?_
            refine ab_wk 3 (f' := (if 0 < (mi785 40 8) then 117 else 118, [some (.ref 40), some (.int x1), some (.int r3), some (.int 1), some (.int 1), none], [], 0, 0, (ab_G mi785 ml786))) rfl ⟨trivial, trivial, trivial, trivial⟩ ?_
            refine ab_wi (fun c => ?_) (fun c => ?_)
            · have h := h.1 c
              exact ab_wr 1 rfl trivial h
            · have h := h.2 c
              obtain ⟨r789, mi787, ml788, hc, h⟩ := h
              refine ab_wc 3 (c := 158) (as := [.ref 40, .int 6]) (pc := 124) (ll := [some (.ref 40), some (.int x1), some (.int r3), some (.int 1), some (.int 1), none]) (st := []) (c1 := 0) (s1 := 0) (g := (ab_G mi785 ml786)) rfl ⟨trivial, trivial, trivial⟩ hc ?_
              refine ab_wk 1 (f' := (if r789 = 0 then 161 else 127, [some (.ref 40), some (.int x1), some (.int r3), some (.int 1), some (.int 1), none], [], 0, 0, (ab_G mi787 ml788))) rfl ⟨trivial, trivial⟩ ?_
              refine ab_wi (fun c => ?_) (fun c => ?_)
              · have h := h.1 c
                obtain ⟨r792, mi790, ml791, hc, h⟩ := h
                refine ab_wc 3 (c := 157) (as := [.ref 40, .int 40]) (pc := 167) (ll := [some (.ref 40), some (.int x1), some (.int r3), some (.int 1), some (.int 1), none]) (st := []) (c1 := 0) (s1 := 0) (g := (ab_G mi787 ml788)) rfl ⟨trivial, trivial, trivial⟩ hc ?_
                refine ab_wk 1 (f' := (if r792 = 0 then 186 else 170, [some (.ref 40), some (.int x1), some (.int r3), some (.int 1), some (.int 1), none], [], 0, 0, (ab_G mi790 ml791))) rfl ⟨trivial, trivial⟩ ?_
                refine ab_wi (fun c => ?_) (fun c => ?_)
                · have h := h.1 c
                  refine ab_wk 2 (f' := (if (1 : Int32) = 0 then 198 else 191, [some (.ref 40), some (.int x1), some (.int r3), some (.int 1), some (.int 1), none], [], 0, 0, (ab_G mi790 ml791))) rfl ⟨trivial, trivial, trivial⟩ ?_
                  refine ab_wif (c := ((1 : Int32) = 0)) (by decide) ?_
                  obtain ⟨mi793, ml794, hc, h⟩ := h
                  refine ab_wc 2 (c := 168) (as := [.ref 40]) (pc := 195) (ll := [some (.ref 40), some (.int x1), some (.int r3), some (.int 1), some (.int 1), none]) (st := []) (c1 := 0) (s1 := 0) (g := (ab_G mi790 ml791)) rfl ⟨trivial, trivial⟩ hc ?_
                  exact ab_wr 2 rfl ⟨trivial, trivial⟩ h
                · have h := h.2 c
                  obtain ⟨mi795, ml796, hc, h⟩ := h
                  refine ab_wc 5 (c := 163) (as := [.ref 40, .int (x1 + 1)]) (pc := 177) (ll := [some (.ref 40), some (.int x1), some (.int r3), some (.int 1), some (.int 1), none]) (st := []) (c1 := 0) (s1 := 0) (g := (ab_G mi790 ml791)) rfl ⟨trivial, trivial, trivial, trivial, trivial⟩ hc ?_
                  obtain ⟨mi797, ml798, hc, h⟩ := h
                  refine ab_wc 3 (c := 156) (as := [.ref 40, .int 41]) (pc := 183) (ll := [some (.ref 40), some (.int x1), some (.int r3), some (.int 1), some (.int 1), none]) (st := []) (c1 := 0) (s1 := 0) (g := (ab_G mi795 ml796)) rfl ⟨trivial, trivial, trivial⟩ hc ?_
                  exact ab_wr 2 rfl ⟨trivial, trivial⟩ h
              · have h := h.2 c
                obtain ⟨mi799, ml800, hc, h⟩ := h
                refine ab_wc 5 (c := 166) (as := [.ref 40, .int (x1 + 1)]) (pc := 134) (ll := [some (.ref 40), some (.int x1), some (.int r3), some (.int 1), some (.int 1), none]) (st := []) (c1 := 0) (s1 := 0) (g := (ab_G mi787 ml788)) rfl ⟨trivial, trivial, trivial, trivial, trivial⟩ hc ?_
                exact ab_wr 14 rfl ⟨trivial, trivial, trivial, trivial, trivial, trivial, trivial, trivial, trivial, trivial, trivial, trivial, trivial, trivial⟩ h
          · have h := h.2 c
            refine ab_wk 3 (f' := (if 0 < (mi577 40 8) then 117 else 118, [some (.ref 40), some (.int x1), some (.int r3), some (.int 1), some (.int 1), none], [], 0, 0, (ab_G mi577 ml578))) rfl ⟨trivial, trivial, trivial, trivial⟩ ?_
            refine ab_wi (fun c => ?_) (fun c => ?_)
            · have h := h.1 c
              exact ab_wr 1 rfl trivial h
            · have h := h.2 c
              obtain ⟨r803, mi801, ml802, hc, h⟩ := h
              refine ab_wc 3 (c := 158) (as := [.ref 40, .int 6]) (pc := 124) (ll := [some (.ref 40), some (.int x1), some (.int r3), some (.int 1), some (.int 1), none]) (st := []) (c1 := 0) (s1 := 0) (g := (ab_G mi577 ml578)) rfl ⟨trivial, trivial, trivial⟩ hc ?_
              refine ab_wk 1 (f' := (if r803 = 0 then 161 else 127, [some (.ref 40), some (.int x1), some (.int r3), some (.int 1), some (.int 1), none], [], 0, 0, (ab_G mi801 ml802))) rfl ⟨trivial, trivial⟩ ?_
              refine ab_wi (fun c => ?_) (fun c => ?_)
              · have h := h.1 c
                obtain ⟨r806, mi804, ml805, hc, h⟩ := h
                refine ab_wc 3 (c := 157) (as := [.ref 40, .int 40]) (pc := 167) (ll := [some (.ref 40), some (.int x1), some (.int r3), some (.int 1), some (.int 1), none]) (st := []) (c1 := 0) (s1 := 0) (g := (ab_G mi801 ml802)) rfl ⟨trivial, trivial, trivial⟩ hc ?_
                refine ab_wk 1 (f' := (if r806 = 0 then 186 else 170, [some (.ref 40), some (.int x1), some (.int r3), some (.int 1), some (.int 1), none], [], 0, 0, (ab_G mi804 ml805))) rfl ⟨trivial, trivial⟩ ?_
                refine ab_wi (fun c => ?_) (fun c => ?_)
                · have h := h.1 c
                  refine ab_wk 2 (f' := (if (1 : Int32) = 0 then 198 else 191, [some (.ref 40), some (.int x1), some (.int r3), some (.int 1), some (.int 1), none], [], 0, 0, (ab_G mi804 ml805))) rfl ⟨trivial, trivial, trivial⟩ ?_
                  refine ab_wif (c := ((1 : Int32) = 0)) (by decide) ?_
                  obtain ⟨mi807, ml808, hc, h⟩ := h
                  refine ab_wc 2 (c := 168) (as := [.ref 40]) (pc := 195) (ll := [some (.ref 40), some (.int x1), some (.int r3), some (.int 1), some (.int 1), none]) (st := []) (c1 := 0) (s1 := 0) (g := (ab_G mi804 ml805)) rfl ⟨trivial, trivial⟩ hc ?_
                  exact ab_wr 2 rfl ⟨trivial, trivial⟩ h
                · have h := h.2 c
                  obtain ⟨mi809, ml810, hc, h⟩ := h
                  refine ab_wc 5 (c := 163) (as := [.ref 40, .int (x1 + 1)]) (pc := 177) (ll := [some (.ref 40), some (.int x1), some (.int r3), some (.int 1), some (.int 1), none]) (st := []) (c1 := 0) (s1 := 0) (g := (ab_G mi804 ml805)) rfl ⟨trivial, trivial, trivial, trivial, trivial⟩ hc ?_
                  obtain ⟨mi811, ml812, hc, h⟩ := h
                  refine ab_wc 3 (c := 156) (as := [.ref 40, .int 41]) (pc := 183) (ll := [some (.ref 40), some (.int x1), some (.int r3), some (.int 1), some (.int 1), none]) (st := []) (c1 := 0) (s1 := 0) (g := (ab_G mi809 ml810)) rfl ⟨trivial, trivial, trivial⟩ hc ?_
                  exact ab_wr 2 rfl ⟨trivial, trivial⟩ h
              · have h := h.2 c
                obtain ⟨mi813, ml814, hc, h⟩ := h
                refine ab_wc 5 (c := 166) (as := [.ref 40, .int (x1 + 1)]) (pc := 134) (ll := [some (.ref 40), some (.int x1), some (.int r3), some (.int 1), some (.int 1), none]) (st := []) (c1 := 0) (s1 := 0) (g := (ab_G mi801 ml802)) rfl ⟨trivial, trivial, trivial, trivial, trivial⟩ hc ?_
                exact ab_wr 14 rfl ⟨trivial, trivial, trivial, trivial, trivial, trivial, trivial, trivial, trivial, trivial, trivial, trivial, trivial, trivial⟩ h
