theorem vc_X8_putEight_0 {call : Nat → List Value → ab_S → Option Value → ab_S → Prop} {ro : ab_E} {Q : Option Value → ab_S → Prop} (x1 : Int64) (mi : Nat → Nat → Int32) (ml : Nat → Nat → Int64)
    (h : ab_W call ro 0 0 (ab_lk2 pl_X8_putEight) Q (3, [some (.ref 2), some (.long x1), none, some (.int 56), none, none], [], 0, 0, (ab_G mi ml))) :
    ab_W call ro 0 0 (ab_lk2 pl_X8_putEight) Q (0, [some (.ref 2), some (.long x1), none, none, none, none], [], 0, 0, ab_G mi ml) := by
  exact ab_wk 2 (f' := (3, [some (.ref 2), some (.long x1), none, some (.int 56), none, none], [], 0, 0, (ab_G mi ml))) rfl ⟨trivial, trivial, trivial⟩ h
theorem vc_X8_putEight_3 {call : Nat → List Value → ab_S → Option Value → ab_S → Prop} {ro : ab_E} {Q : Option Value → ab_S → Prop} (y1 : Int64) (y3 : Int32) (mi : Nat → Nat → Int32) (ml : Nat → Nat → Int64)
    (h : ((y3 < 0) → (Q none (ab_G mi ml))) ∧ (¬ (y3 < 0) → (((((((y1).toUInt64 >>> ((y3).toInt64.toUInt64 &&& Int64.toUInt64 63)).toInt64).toInt32 &&& 255) = 10) → ((((mi 2 2) < 1000) → (vp_in (mi 2 2) 1000 ∧ (∃ (r3 : Int32) (mi1 : Nat → Nat → Int32) (ml2 : Nat → Nat → Int64), call 82 [.int ((((y1).toUInt64 >>> ((y3).toInt64.toUInt64 &&& Int64.toUInt64 63)).toInt64).toInt32 &&& 255)] (ab_G (ab_ui mi 3 ((mi 2 2)).toNatClampNeg (vp_nar .byte (((((y1).toUInt64 >>> ((y3).toInt64.toUInt64 &&& Int64.toUInt64 63)).toInt64).toInt32 &&& 255)).toInt8.toInt32)) ml) (some (.int r3)) (ab_G mi1 ml2) ∧ (vp_in (mi 2 2) 1000 ∧ (ab_W call ro 0 0 (ab_lk2 pl_X8_putEight) Q (3, [some (.ref 2), some (.long y1), none, some (.int (y3 + (-8))), none, none], [], 0, 0, (ab_G (ab_ui (ab_ui mi1 4 ((mi 2 2)).toNatClampNeg (vp_nar .byte (r3).toInt8.toInt32)) 2 2 ((mi1 2 2) + 1)) ml2))))))) ∧ (¬ ((mi 2 2) < 1000) → (ab_W call ro 0 0 (ab_lk2 pl_X8_putEight) Q (3, [some (.ref 2), some (.long y1), none, some (.int (y3 + (-8))), none, none], [], 0, 0, (ab_G mi ml)))))) ∧ (¬ (((((y1).toUInt64 >>> ((y3).toInt64.toUInt64 &&& Int64.toUInt64 63)).toInt64).toInt32 &&& 255) = 10) → (((((((y1).toUInt64 >>> ((y3).toInt64.toUInt64 &&& Int64.toUInt64 63)).toInt64).toInt32 &&& 255) < 32) → (ab_W call ro 0 0 (ab_lk2 pl_X8_putEight) Q (3, [some (.ref 2), some (.long y1), none, some (.int (y3 + (-8))), none, none], [], 0, 0, (ab_G mi ml)))) ∧ (¬ (((((y1).toUInt64 >>> ((y3).toInt64.toUInt64 &&& Int64.toUInt64 63)).toInt64).toInt32 &&& 255) < 32) → (((126 < ((((y1).toUInt64 >>> ((y3).toInt64.toUInt64 &&& Int64.toUInt64 63)).toInt64).toInt32 &&& 255)) → (ab_W call ro 0 0 (ab_lk2 pl_X8_putEight) Q (3, [some (.ref 2), some (.long y1), none, some (.int (y3 + (-8))), none, none], [], 0, 0, (ab_G mi ml)))) ∧ (¬ (126 < ((((y1).toUInt64 >>> ((y3).toInt64.toUInt64 &&& Int64.toUInt64 63)).toInt64).toInt32 &&& 255)) → ((((mi 2 2) < 1000) → (vp_in (mi 2 2) 1000 ∧ (∃ (r6 : Int32) (mi4 : Nat → Nat → Int32) (ml5 : Nat → Nat → Int64), call 82 [.int ((((y1).toUInt64 >>> ((y3).toInt64.toUInt64 &&& Int64.toUInt64 63)).toInt64).toInt32 &&& 255)] (ab_G (ab_ui mi 3 ((mi 2 2)).toNatClampNeg (vp_nar .byte (((((y1).toUInt64 >>> ((y3).toInt64.toUInt64 &&& Int64.toUInt64 63)).toInt64).toInt32 &&& 255)).toInt8.toInt32)) ml) (some (.int r6)) (ab_G mi4 ml5) ∧ (vp_in (mi 2 2) 1000 ∧ (ab_W call ro 0 0 (ab_lk2 pl_X8_putEight) Q (3, [some (.ref 2), some (.long y1), none, some (.int (y3 + (-8))), none, none], [], 0, 0, (ab_G (ab_ui (ab_ui mi4 4 ((mi 2 2)).toNatClampNeg (vp_nar .byte (r6).toInt8.toInt32)) 2 2 ((mi4 2 2) + 1)) ml5))))))) ∧ (¬ ((mi 2 2) < 1000) → (ab_W call ro 0 0 (ab_lk2 pl_X8_putEight) Q (3, [some (.ref 2), some (.long y1), none, some (.int (y3 + (-8))), none, none], [], 0, 0, (ab_G mi ml))))))))))))) :
    ab_W call ro 0 0 (ab_lk2 pl_X8_putEight) Q (3, [some (.ref 2), some (.long y1), none, some (.int y3), none, none], [], 0, 0, ab_G mi ml) := by
  refine ab_wk 2 (f' := (if y3 < 0 then 103 else 7, [some (.ref 2), some (.long y1), none, some (.int y3), none, none], [], 0, 0, (ab_G mi ml))) rfl ⟨trivial, trivial, trivial⟩ ?_
  refine ab_wi (fun c => ?_) (fun c => ?_)
  · have h := h.1 c
    exact ab_wr 1 rfl trivial h
  · have h := h.2 c
    refine ab_wk 10 (f' := (if ((((y1).toUInt64 >>> ((y3).toInt64.toUInt64 &&& Int64.toUInt64 63)).toInt64).toInt32 &&& 255) = 10 then 38 else 24, [some (.ref 2), some (.long y1), none, some (.int y3), some (.int ((((y1).toUInt64 >>> ((y3).toInt64.toUInt64 &&& Int64.toUInt64 63)).toInt64).toInt32 &&& 255)), none], [], 0, 0, (ab_G mi ml))) rfl ⟨trivial, trivial, trivial, trivial, trivial, trivial, trivial, trivial, trivial, trivial, trivial⟩ ?_
    refine ab_wi (fun c => ?_) (fun c => ?_)
    · have h := h.1 c
      refine ab_wk 5 (f' := (if (1 : Int32) = 0 then 97 else 50, [some (.ref 2), some (.long y1), none, some (.int y3), some (.int ((((y1).toUInt64 >>> ((y3).toInt64.toUInt64 &&& Int64.toUInt64 63)).toInt64).toInt32 &&& 255)), some (.int 1)], [], 0, 0, (ab_G mi ml))) rfl ⟨trivial, trivial, trivial, trivial, trivial, trivial⟩ ?_
      refine ab_wif (c := ((1 : Int32) = 0)) (by decide) ?_
      refine ab_wk 4 (f' := (if (mi 2 2) < 1000 then 60 else 97, [some (.ref 2), some (.long y1), none, some (.int y3), some (.int ((((y1).toUInt64 >>> ((y3).toInt64.toUInt64 &&& Int64.toUInt64 63)).toInt64).toInt32 &&& 255)), some (.int 1)], [], 0, 0, (ab_G mi ml))) rfl ⟨trivial, trivial, trivial, trivial, trivial⟩ ?_
      refine ab_wi (fun c => ?_) (fun c => ?_)
      · have h := h.1 c
        obtain ⟨p0, h⟩ := h
        obtain ⟨r3, mi1, ml2, hc, h⟩ := h
        refine ab_wc 13 (c := 82) (as := [.int ((((y1).toUInt64 >>> ((y3).toInt64.toUInt64 &&& Int64.toUInt64 63)).toInt64).toInt32 &&& 255)]) (pc := 85) (ll := [some (.ref 2), some (.long y1), none, some (.int y3), some (.int ((((y1).toUInt64 >>> ((y3).toInt64.toUInt64 &&& Int64.toUInt64 63)).toInt64).toInt32 &&& 255)), some (.int 1)]) (st := [.int (mi 2 2), .ref 4]) (c1 := 0) (s1 := 0) (g := (ab_G (ab_ui mi 3 ((mi 2 2)).toNatClampNeg (vp_nar .byte (((((y1).toUInt64 >>> ((y3).toInt64.toUInt64 &&& Int64.toUInt64 63)).toInt64).toInt32 &&& 255)).toInt8.toInt32)) ml)) rfl ⟨trivial, trivial, trivial, trivial, trivial, trivial, p0, trivial, trivial, trivial, trivial, trivial, trivial⟩ hc ?_
        obtain ⟨p0, h⟩ := h
        exact ab_wk 10 (f' := (3, [some (.ref 2), some (.long y1), none, some (.int (y3 + (-8))), some (.int ((((y1).toUInt64 >>> ((y3).toInt64.toUInt64 &&& Int64.toUInt64 63)).toInt64).toInt32 &&& 255)), some (.int 1)], [], 0, 0, (ab_G (ab_ui (ab_ui mi1 4 ((mi 2 2)).toNatClampNeg (vp_nar .byte (r3).toInt8.toInt32)) 2 2 ((mi1 2 2) + 1)) ml2))) rfl ⟨trivial, p0, trivial, trivial, trivial, trivial, trivial, trivial, trivial, trivial, trivial⟩ (ab_drop h (ab_lrc _ (ab_lrc _ (ab_lrc _ (ab_lrc _ (ab_lrn _ (ab_lrn _ ab_lr0)))))))
      · have h := h.2 c
        exact ab_wk 2 (f' := (3, [some (.ref 2), some (.long y1), none, some (.int (y3 + (-8))), some (.int ((((y1).toUInt64 >>> ((y3).toInt64.toUInt64 &&& Int64.toUInt64 63)).toInt64).toInt32 &&& 255)), some (.int 1)], [], 0, 0, (ab_G mi ml))) rfl ⟨trivial, trivial, trivial⟩ (ab_drop h (ab_lrc _ (ab_lrc _ (ab_lrc _ (ab_lrc _ (ab_lrn _ (ab_lrn _ ab_lr0)))))))
    · have h := h.2 c
      refine ab_wk 3 (f' := (if ((((y1).toUInt64 >>> ((y3).toInt64.toUInt64 &&& Int64.toUInt64 63)).toInt64).toInt32 &&& 255) < 32 then 42 else 31, [some (.ref 2), some (.long y1), none, some (.int y3), some (.int ((((y1).toUInt64 >>> ((y3).toInt64.toUInt64 &&& Int64.toUInt64 63)).toInt64).toInt32 &&& 255)), none], [], 0, 0, (ab_G mi ml))) rfl ⟨trivial, trivial, trivial, trivial⟩ ?_
      refine ab_wi (fun c => ?_) (fun c => ?_)
      · have h := h.1 c
        refine ab_wk 4 (f' := (if (0 : Int32) = 0 then 97 else 50, [some (.ref 2), some (.long y1), none, some (.int y3), some (.int ((((y1).toUInt64 >>> ((y3).toInt64.toUInt64 &&& Int64.toUInt64 63)).toInt64).toInt32 &&& 255)), some (.int 0)], [], 0, 0, (ab_G mi ml))) rfl ⟨trivial, trivial, trivial, trivial, trivial⟩ ?_
        refine ab_wit (c := ((0 : Int32) = 0)) (by decide) ?_
        exact ab_wk 2 (f' := (3, [some (.ref 2), some (.long y1), none, some (.int (y3 + (-8))), some (.int ((((y1).toUInt64 >>> ((y3).toInt64.toUInt64 &&& Int64.toUInt64 63)).toInt64).toInt32 &&& 255)), some (.int 0)], [], 0, 0, (ab_G mi ml))) rfl ⟨trivial, trivial, trivial⟩ (ab_drop h (ab_lrc _ (ab_lrc _ (ab_lrc _ (ab_lrc _ (ab_lrn _ (ab_lrn _ ab_lr0)))))))
      · have h := h.2 c
        refine ab_wk 3 (f' := (if 126 < ((((y1).toUInt64 >>> ((y3).toInt64.toUInt64 &&& Int64.toUInt64 63)).toInt64).toInt32 &&& 255) then 42 else 38, [some (.ref 2), some (.long y1), none, some (.int y3), some (.int ((((y1).toUInt64 >>> ((y3).toInt64.toUInt64 &&& Int64.toUInt64 63)).toInt64).toInt32 &&& 255)), none], [], 0, 0, (ab_G mi ml))) rfl ⟨trivial, trivial, trivial, trivial⟩ ?_
        refine ab_wi (fun c => ?_) (fun c => ?_)
        · have h := h.1 c
          refine ab_wk 4 (f' := (if (0 : Int32) = 0 then 97 else 50, [some (.ref 2), some (.long y1), none, some (.int y3), some (.int ((((y1).toUInt64 >>> ((y3).toInt64.toUInt64 &&& Int64.toUInt64 63)).toInt64).toInt32 &&& 255)), some (.int 0)], [], 0, 0, (ab_G mi ml))) rfl ⟨trivial, trivial, trivial, trivial, trivial⟩ ?_
          refine ab_wit (c := ((0 : Int32) = 0)) (by decide) ?_
          exact ab_wk 2 (f' := (3, [some (.ref 2), some (.long y1), none, some (.int (y3 + (-8))), some (.int ((((y1).toUInt64 >>> ((y3).toInt64.toUInt64 &&& Int64.toUInt64 63)).toInt64).toInt32 &&& 255)), some (.int 0)], [], 0, 0, (ab_G mi ml))) rfl ⟨trivial, trivial, trivial⟩ (ab_drop h (ab_lrc _ (ab_lrc _ (ab_lrc _ (ab_lrc _ (ab_lrn _ (ab_lrn _ ab_lr0)))))))
        · have h := h.2 c
          refine ab_wk 5 (f' := (if (1 : Int32) = 0 then 97 else 50, [some (.ref 2), some (.long y1), none, some (.int y3), some (.int ((((y1).toUInt64 >>> ((y3).toInt64.toUInt64 &&& Int64.toUInt64 63)).toInt64).toInt32 &&& 255)), some (.int 1)], [], 0, 0, (ab_G mi ml))) rfl ⟨trivial, trivial, trivial, trivial, trivial, trivial⟩ ?_
          refine ab_wif (c := ((1 : Int32) = 0)) (by decide) ?_
          refine ab_wk 4 (f' := (if (mi 2 2) < 1000 then 60 else 97, [some (.ref 2), some (.long y1), none, some (.int y3), some (.int ((((y1).toUInt64 >>> ((y3).toInt64.toUInt64 &&& Int64.toUInt64 63)).toInt64).toInt32 &&& 255)), some (.int 1)], [], 0, 0, (ab_G mi ml))) rfl ⟨trivial, trivial, trivial, trivial, trivial⟩ ?_
          refine ab_wi (fun c => ?_) (fun c => ?_)
          · have h := h.1 c
            obtain ⟨p0, h⟩ := h
            obtain ⟨r6, mi4, ml5, hc, h⟩ := h
            refine ab_wc 13 (c := 82) (as := [.int ((((y1).toUInt64 >>> ((y3).toInt64.toUInt64 &&& Int64.toUInt64 63)).toInt64).toInt32 &&& 255)]) (pc := 85) (ll := [some (.ref 2), some (.long y1), none, some (.int y3), some (.int ((((y1).toUInt64 >>> ((y3).toInt64.toUInt64 &&& Int64.toUInt64 63)).toInt64).toInt32 &&& 255)), some (.int 1)]) (st := [.int (mi 2 2), .ref 4]) (c1 := 0) (s1 := 0) (g := (ab_G (ab_ui mi 3 ((mi 2 2)).toNatClampNeg (vp_nar .byte (((((y1).toUInt64 >>> ((y3).toInt64.toUInt64 &&& Int64.toUInt64 63)).toInt64).toInt32 &&& 255)).toInt8.toInt32)) ml)) rfl ⟨trivial, trivial, trivial, trivial, trivial, trivial, p0, trivial, trivial, trivial, trivial, trivial, trivial⟩ hc ?_
            obtain ⟨p0, h⟩ := h
            exact ab_wk 10 (f' := (3, [some (.ref 2), some (.long y1), none, some (.int (y3 + (-8))), some (.int ((((y1).toUInt64 >>> ((y3).toInt64.toUInt64 &&& Int64.toUInt64 63)).toInt64).toInt32 &&& 255)), some (.int 1)], [], 0, 0, (ab_G (ab_ui (ab_ui mi4 4 ((mi 2 2)).toNatClampNeg (vp_nar .byte (r6).toInt8.toInt32)) 2 2 ((mi4 2 2) + 1)) ml5))) rfl ⟨trivial, p0, trivial, trivial, trivial, trivial, trivial, trivial, trivial, trivial, trivial⟩ (ab_drop h (ab_lrc _ (ab_lrc _ (ab_lrc _ (ab_lrc _ (ab_lrn _ (ab_lrn _ ab_lr0)))))))
          · have h := h.2 c
            exact ab_wk 2 (f' := (3, [some (.ref 2), some (.long y1), none, some (.int (y3 + (-8))), some (.int ((((y1).toUInt64 >>> ((y3).toInt64.toUInt64 &&& Int64.toUInt64 63)).toInt64).toInt32 &&& 255)), some (.int 1)], [], 0, 0, (ab_G mi ml))) rfl ⟨trivial, trivial, trivial⟩ (ab_drop h (ab_lrc _ (ab_lrc _ (ab_lrc _ (ab_lrc _ (ab_lrn _ (ab_lrn _ ab_lr0)))))))
theorem vc_X8_sortOf_0 {call : Nat → List Value → ab_S → Option Value → ab_S → Prop} {ro : ab_E} {Q : Option Value → ab_S → Prop} (x0 : Int32) (mi : Nat → Nat → Int32) (ml : Nat → Nat → Int64)
    (h : ((x0 < 97) → (((x0 < 48) → (((x0 = 10) → (Q (some (.int 1)) (ab_G mi ml))) ∧ (¬ (x0 = 10) → (((x0 = 32) → (Q (some (.int 1)) (ab_G mi ml))) ∧ (¬ (x0 = 32) → (((x0 = 40) → (Q (some (.int 4)) (ab_G mi ml))) ∧ (¬ (x0 = 40) → (((x0 = 41) → (Q (some (.int 5)) (ab_G mi ml))) ∧ (¬ (x0 = 41) → (((x0 = 59) → (Q (some (.int 6)) (ab_G mi ml))) ∧ (¬ (x0 = 59) → (Q (some (.int 7)) (ab_G mi ml))))))))))))) ∧ (¬ (x0 < 48) → (((57 < x0) → (((x0 = 10) → (Q (some (.int 1)) (ab_G mi ml))) ∧ (¬ (x0 = 10) → (((x0 = 32) → (Q (some (.int 1)) (ab_G mi ml))) ∧ (¬ (x0 = 32) → (((x0 = 40) → (Q (some (.int 4)) (ab_G mi ml))) ∧ (¬ (x0 = 40) → (((x0 = 41) → (Q (some (.int 5)) (ab_G mi ml))) ∧ (¬ (x0 = 41) → (((x0 = 59) → (Q (some (.int 6)) (ab_G mi ml))) ∧ (¬ (x0 = 59) → (Q (some (.int 7)) (ab_G mi ml))))))))))))) ∧ (¬ (57 < x0) → (Q (some (.int 3)) (ab_G mi ml))))))) ∧ (¬ (x0 < 97) → (((122 < x0) → (((x0 < 48) → (((x0 = 10) → (Q (some (.int 1)) (ab_G mi ml))) ∧ (¬ (x0 = 10) → (((x0 = 32) → (Q (some (.int 1)) (ab_G mi ml))) ∧ (¬ (x0 = 32) → (((x0 = 40) → (Q (some (.int 4)) (ab_G mi ml))) ∧ (¬ (x0 = 40) → (((x0 = 41) → (Q (some (.int 5)) (ab_G mi ml))) ∧ (¬ (x0 = 41) → (((x0 = 59) → (Q (some (.int 6)) (ab_G mi ml))) ∧ (¬ (x0 = 59) → (Q (some (.int 7)) (ab_G mi ml))))))))))))) ∧ (¬ (x0 < 48) → (((57 < x0) → (((x0 = 10) → (Q (some (.int 1)) (ab_G mi ml))) ∧ (¬ (x0 = 10) → (((x0 = 32) → (Q (some (.int 1)) (ab_G mi ml))) ∧ (¬ (x0 = 32) → (((x0 = 40) → (Q (some (.int 4)) (ab_G mi ml))) ∧ (¬ (x0 = 40) → (((x0 = 41) → (Q (some (.int 5)) (ab_G mi ml))) ∧ (¬ (x0 = 41) → (((x0 = 59) → (Q (some (.int 6)) (ab_G mi ml))) ∧ (¬ (x0 = 59) → (Q (some (.int 7)) (ab_G mi ml))))))))))))) ∧ (¬ (57 < x0) → (Q (some (.int 3)) (ab_G mi ml))))))) ∧ (¬ (122 < x0) → (Q (some (.int 2)) (ab_G mi ml)))))) :
    ab_W call ro 0 0 (ab_lk2 pl_X8_sortOf) Q (0, [some (.int x0)], [], 0, 0, ab_G mi ml) := by
  refine ab_wk 3 (f' := (if x0 < 97 then 14 else 6, [some (.int x0)], [], 0, 0, (ab_G mi ml))) rfl ⟨trivial, trivial, trivial, trivial⟩ ?_
  refine ab_wi (fun c => ?_) (fun c => ?_)
  · have h := h.1 c
    refine ab_wk 3 (f' := (if x0 < 48 then 28 else 20, [some (.int x0)], [], 0, 0, (ab_G mi ml))) rfl ⟨trivial, trivial, trivial, trivial⟩ ?_
    refine ab_wi (fun c => ?_) (fun c => ?_)
    · have h := h.1 c
      refine ab_wk 2 (f' := (ab_sw x0 [(10, 80), (32, 80), (40, 82), (41, 84), (59, 86)] 89, [some (.int x0)], [], 0, 0, (ab_G mi ml))) rfl ⟨trivial, trivial, trivial⟩ ?_
      refine ab_wi (fun c => ?_) (fun c => ?_)
      · have h := h.1 c
        exact ab_wr 2 rfl ⟨trivial, trivial⟩ h
      · have h := h.2 c
        refine ab_wi (fun c => ?_) (fun c => ?_)
        · have h := h.1 c
          exact ab_wr 2 rfl ⟨trivial, trivial⟩ h
        · have h := h.2 c
          refine ab_wi (fun c => ?_) (fun c => ?_)
          · have h := h.1 c
            exact ab_wr 2 rfl ⟨trivial, trivial⟩ h
          · have h := h.2 c
            refine ab_wi (fun c => ?_) (fun c => ?_)
            · have h := h.1 c
              exact ab_wr 2 rfl ⟨trivial, trivial⟩ h
            · have h := h.2 c
              refine ab_wi (fun c => ?_) (fun c => ?_)
              · have h := h.1 c
                exact ab_wr 2 rfl ⟨trivial, trivial⟩ h
              · have h := h.2 c
                exact ab_wr 2 rfl ⟨trivial, trivial⟩ h
    · have h := h.2 c
      refine ab_wk 3 (f' := (if 57 < x0 then 28 else 26, [some (.int x0)], [], 0, 0, (ab_G mi ml))) rfl ⟨trivial, trivial, trivial, trivial⟩ ?_
      refine ab_wi (fun c => ?_) (fun c => ?_)
      · have h := h.1 c
        refine ab_wk 2 (f' := (ab_sw x0 [(10, 80), (32, 80), (40, 82), (41, 84), (59, 86)] 89, [some (.int x0)], [], 0, 0, (ab_G mi ml))) rfl ⟨trivial, trivial, trivial⟩ ?_
        refine ab_wi (fun c => ?_) (fun c => ?_)
        · have h := h.1 c
          exact ab_wr 2 rfl ⟨trivial, trivial⟩ h
        · have h := h.2 c
          refine ab_wi (fun c => ?_) (fun c => ?_)
          · have h := h.1 c
            exact ab_wr 2 rfl ⟨trivial, trivial⟩ h
          · have h := h.2 c
            refine ab_wi (fun c => ?_) (fun c => ?_)
            · have h := h.1 c
              exact ab_wr 2 rfl ⟨trivial, trivial⟩ h
            · have h := h.2 c
              refine ab_wi (fun c => ?_) (fun c => ?_)
              · have h := h.1 c
                exact ab_wr 2 rfl ⟨trivial, trivial⟩ h
              · have h := h.2 c
                refine ab_wi (fun c => ?_) (fun c => ?_)
                · have h := h.1 c
                  exact ab_wr 2 rfl ⟨trivial, trivial⟩ h
                · have h := h.2 c
                  exact ab_wr 2 rfl ⟨trivial, trivial⟩ h
      · have h := h.2 c
        exact ab_wr 2 rfl ⟨trivial, trivial⟩ h
  · have h := h.2 c
    refine ab_wk 3 (f' := (if 122 < x0 then 14 else 12, [some (.int x0)], [], 0, 0, (ab_G mi ml))) rfl ⟨trivial, trivial, trivial, trivial⟩ ?_
    refine ab_wi (fun c => ?_) (fun c => ?_)
    · have h := h.1 c
      refine ab_wk 3 (f' := (if x0 < 48 then 28 else 20, [some (.int x0)], [], 0, 0, (ab_G mi ml))) rfl ⟨trivial, trivial, trivial, trivial⟩ ?_
      refine ab_wi (fun c => ?_) (fun c => ?_)
      · have h := h.1 c
        refine ab_wk 2 (f' := (ab_sw x0 [(10, 80), (32, 80), (40, 82), (41, 84), (59, 86)] 89, [some (.int x0)], [], 0, 0, (ab_G mi ml))) rfl ⟨trivial, trivial, trivial⟩ ?_
        refine ab_wi (fun c => ?_) (fun c => ?_)
        · have h := h.1 c
          exact ab_wr 2 rfl ⟨trivial, trivial⟩ h
        · have h := h.2 c
          refine ab_wi (fun c => ?_) (fun c => ?_)
          · have h := h.1 c
            exact ab_wr 2 rfl ⟨trivial, trivial⟩ h
          · have h := h.2 c
            refine ab_wi (fun c => ?_) (fun c => ?_)
            · have h := h.1 c
              exact ab_wr 2 rfl ⟨trivial, trivial⟩ h
            · have h := h.2 c
              refine ab_wi (fun c => ?_) (fun c => ?_)
              · have h := h.1 c
                exact ab_wr 2 rfl ⟨trivial, trivial⟩ h
              · have h := h.2 c
                refine ab_wi (fun c => ?_) (fun c => ?_)
                · have h := h.1 c
                  exact ab_wr 2 rfl ⟨trivial, trivial⟩ h
                · have h := h.2 c
                  exact ab_wr 2 rfl ⟨trivial, trivial⟩ h
      · have h := h.2 c
        refine ab_wk 3 (f' := (if 57 < x0 then 28 else 26, [some (.int x0)], [], 0, 0, (ab_G mi ml))) rfl ⟨trivial, trivial, trivial, trivial⟩ ?_
        refine ab_wi (fun c => ?_) (fun c => ?_)
        · have h := h.1 c
          refine ab_wk 2 (f' := (ab_sw x0 [(10, 80), (32, 80), (40, 82), (41, 84), (59, 86)] 89, [some (.int x0)], [], 0, 0, (ab_G mi ml))) rfl ⟨trivial, trivial, trivial⟩ ?_
          refine ab_wi (fun c => ?_) (fun c => ?_)
          · have h := h.1 c
            exact ab_wr 2 rfl ⟨trivial, trivial⟩ h
          · have h := h.2 c
            refine ab_wi (fun c => ?_) (fun c => ?_)
            · have h := h.1 c
              exact ab_wr 2 rfl ⟨trivial, trivial⟩ h
            · have h := h.2 c
              refine ab_wi (fun c => ?_) (fun c => ?_)
              · have h := h.1 c
                exact ab_wr 2 rfl ⟨trivial, trivial⟩ h
              · have h := h.2 c
                refine ab_wi (fun c => ?_) (fun c => ?_)
                · have h := h.1 c
                  exact ab_wr 2 rfl ⟨trivial, trivial⟩ h
                · have h := h.2 c
                  refine ab_wi (fun c => ?_) (fun c => ?_)
                  · have h := h.1 c
                    exact ab_wr 2 rfl ⟨trivial, trivial⟩ h
                  · have h := h.2 c
                    exact ab_wr 2 rfl ⟨trivial, trivial⟩ h
        · have h := h.2 c
          exact ab_wr 2 rfl ⟨trivial, trivial⟩ h
    · have h := h.2 c
      exact ab_wr 2 rfl ⟨trivial, trivial⟩ h
theorem vc_X8_clear_0 {call : Nat → List Value → ab_S → Option Value → ab_S → Prop} {ro : ab_E} {Q : Option Value → ab_S → Prop}  (mi : Nat → Nat → Int32) (ml : Nat → Nat → Int64)
    (h : Q none (ab_G (ab_ui mi 2 2 0) ml)) :
    ab_W call ro 0 0 (ab_lk2 pl_X8_clear) Q (0, [some (.ref 2)], [], 0, 0, ab_G mi ml) := by
  exact ab_wr 4 rfl ⟨trivial, trivial, trivial, trivial⟩ h
theorem vc_X8_rewind_0 {call : Nat → List Value → ab_S → Option Value → ab_S → Prop} {ro : ab_E} {Q : Option Value → ab_S → Prop}  (mi : Nat → Nat → Int32) (ml : Nat → Nat → Int64)
    (h : ∃ (mi1 : Nat → Nat → Int32) (ml2 : Nat → Nat → Int64), call 85 [.ref 2] (ab_G (ab_ui mi 2 5 0) ml) none (ab_G mi1 ml2) ∧ (Q none (ab_G mi1 ml2))) :
    ab_W call ro 0 0 (ab_lk2 pl_X8_rewind) Q (0, [some (.ref 2)], [], 0, 0, ab_G mi ml) := by
  obtain ⟨mi1, ml2, hc, h⟩ := h
  refine ab_wc 5 (c := 85) (as := [.ref 2]) (pc := 9) (ll := [some (.ref 2)]) (st := []) (c1 := 0) (s1 := 0) (g := (ab_G (ab_ui mi 2 5 0) ml)) rfl ⟨trivial, trivial, trivial, trivial, trivial⟩ hc ?_
  exact ab_wr 1 rfl trivial h
theorem vc_X8_step_0 {call : Nat → List Value → ab_S → Option Value → ab_S → Prop} {ro : ab_E} {Q : Option Value → ab_S → Prop}  (mi : Nat → Nat → Int32) (ml : Nat → Nat → Int64)
    (h : ab_W call ro 0 0 (ab_lk2 pl_X8_step) Q (5, [some (.ref 2), some (.int (mi 2 5)), none, none], [], 0, 0, (ab_G mi ml))) :
    ab_W call ro 0 0 (ab_lk2 pl_X8_step) Q (0, [some (.ref 2), none, none, none], [], 0, 0, ab_G mi ml) := by
  exact ab_wk 3 (f' := (5, [some (.ref 2), some (.int (mi 2 5)), none, none], [], 0, 0, (ab_G mi ml))) rfl ⟨trivial, trivial, trivial, trivial⟩ h
theorem vc_X8_step_5 {call : Nat → List Value → ab_S → Option Value → ab_S → Prop} {ro : ab_E} {Q : Option Value → ab_S → Prop} (y1 : Int32) (mi : Nat → Nat → Int32) (ml : Nat → Nat → Int64)
    (h : ((y1 < (mi 2 2)) → (vp_in y1 1000 ∧ ((((mi 4 (y1).toNatClampNeg) = 1) → (ab_W call ro 0 0 (ab_lk2 pl_X8_step) Q (5, [some (.ref 2), some (.int (y1 + 1)), none, none], [], 0, 0, (ab_G mi ml)))) ∧ (¬ ((mi 4 (y1).toNatClampNeg) = 1) → (((y1 < (mi 2 2)) → (vp_in y1 1000 ∧ ((((mi 4 (y1).toNatClampNeg) = 2) → (ab_W call ro 0 0 (ab_lk2 pl_X8_step) Q (78, [some (.ref 2), some (.int y1), some (.int 1), none], [], 0, 0, (ab_G (ab_ui (ab_ui mi 2 4 y1) 2 3 (mi 4 (y1).toNatClampNeg)) ml)))) ∧ (¬ ((mi 4 (y1).toNatClampNeg) = 2) → ((((mi 4 (y1).toNatClampNeg) = 3) → (ab_W call ro 0 0 (ab_lk2 pl_X8_step) Q (78, [some (.ref 2), some (.int y1), some (.int 1), none], [], 0, 0, (ab_G (ab_ui (ab_ui mi 2 4 y1) 2 3 (mi 4 (y1).toNatClampNeg)) ml)))) ∧ (¬ ((mi 4 (y1).toNatClampNeg) = 3) → (ab_W call ro 0 0 (ab_lk2 pl_X8_step) Q (78, [some (.ref 2), some (.int y1), some (.int 0), none], [], 0, 0, (ab_G (ab_ui (ab_ui mi 2 4 y1) 2 3 (mi 4 (y1).toNatClampNeg)) ml))))))))) ∧ (¬ (y1 < (mi 2 2)) → (ab_W call ro 0 0 (ab_lk2 pl_X8_step) Q (78, [some (.ref 2), some (.int y1), some (.int 0), none], [], 0, 0, (ab_G (ab_ui (ab_ui mi 2 4 y1) 2 3 0) ml))))))))) ∧ (¬ (y1 < (mi 2 2)) → (((y1 < (mi 2 2)) → (vp_in y1 1000 ∧ ((((mi 4 (y1).toNatClampNeg) = 2) → (ab_W call ro 0 0 (ab_lk2 pl_X8_step) Q (78, [some (.ref 2), some (.int y1), some (.int 1), none], [], 0, 0, (ab_G (ab_ui (ab_ui mi 2 4 y1) 2 3 (mi 4 (y1).toNatClampNeg)) ml)))) ∧ (¬ ((mi 4 (y1).toNatClampNeg) = 2) → ((((mi 4 (y1).toNatClampNeg) = 3) → (ab_W call ro 0 0 (ab_lk2 pl_X8_step) Q (78, [some (.ref 2), some (.int y1), some (.int 1), none], [], 0, 0, (ab_G (ab_ui (ab_ui mi 2 4 y1) 2 3 (mi 4 (y1).toNatClampNeg)) ml)))) ∧ (¬ ((mi 4 (y1).toNatClampNeg) = 3) → (ab_W call ro 0 0 (ab_lk2 pl_X8_step) Q (78, [some (.ref 2), some (.int y1), some (.int 0), none], [], 0, 0, (ab_G (ab_ui (ab_ui mi 2 4 y1) 2 3 (mi 4 (y1).toNatClampNeg)) ml))))))))) ∧ (¬ (y1 < (mi 2 2)) → (ab_W call ro 0 0 (ab_lk2 pl_X8_step) Q (78, [some (.ref 2), some (.int y1), some (.int 0), none], [], 0, 0, (ab_G (ab_ui (ab_ui mi 2 4 y1) 2 3 0) ml))))))) :
    ab_W call ro 0 0 (ab_lk2 pl_X8_step) Q (5, [some (.ref 2), some (.int y1), none, none], [], 0, 0, ab_G mi ml) := by
  refine ab_wk 4 (f' := (if y1 < (mi 2 2) then 13 else 29, [some (.ref 2), some (.int y1), none, none], [], 0, 0, (ab_G mi ml))) rfl ⟨trivial, trivial, trivial, trivial, trivial⟩ ?_
  refine ab_wi (fun c => ?_) (fun c => ?_)
  · have h := h.1 c
    obtain ⟨p0, h⟩ := h
    refine ab_wk 6 (f' := (if (mi 4 (y1).toNatClampNeg) = 1 then 23 else 29, [some (.ref 2), some (.int y1), none, none], [], 0, 0, (ab_G mi ml))) rfl ⟨trivial, trivial, trivial, p0, trivial, trivial, trivial⟩ ?_
    refine ab_wi (fun c => ?_) (fun c => ?_)
    · have h := h.1 c
      exact ab_wk 2 (f' := (5, [some (.ref 2), some (.int (y1 + 1)), none, none], [], 0, 0, (ab_G mi ml))) rfl ⟨trivial, trivial, trivial⟩ h
    · have h := h.2 c
      refine ab_wk 8 (f' := (if y1 < (mi 2 2) then 43 else 52, [some (.ref 2), some (.int y1), none, none], [.ref 2], 0, 0, (ab_G (ab_ui mi 2 4 y1) ml))) rfl ⟨trivial, trivial, trivial, trivial, trivial, trivial, trivial, trivial, trivial⟩ ?_
      refine ab_wi (fun c => ?_) (fun c => ?_)
      · have h := h.1 c
        obtain ⟨p0, h⟩ := h
        refine ab_wk 10 (f' := (if (mi 4 (y1).toNatClampNeg) = 2 then 72 else 64, [some (.ref 2), some (.int y1), none, none], [], 0, 0, (ab_G (ab_ui (ab_ui mi 2 4 y1) 2 3 (mi 4 (y1).toNatClampNeg)) ml))) rfl ⟨trivial, trivial, trivial, p0, trivial, trivial, trivial, trivial, trivial, trivial, trivial⟩ ?_
        refine ab_wi (fun c => ?_) (fun c => ?_)
        · have h := h.1 c
          exact ab_wk 3 (f' := (78, [some (.ref 2), some (.int y1), some (.int 1), none], [], 0, 0, (ab_G (ab_ui (ab_ui mi 2 4 y1) 2 3 (mi 4 (y1).toNatClampNeg)) ml))) rfl ⟨trivial, trivial, trivial, trivial⟩ h
        · have h := h.2 c
          refine ab_wk 4 (f' := (if (mi 4 (y1).toNatClampNeg) = 3 then 72 else 76, [some (.ref 2), some (.int y1), none, none], [], 0, 0, (ab_G (ab_ui (ab_ui mi 2 4 y1) 2 3 (mi 4 (y1).toNatClampNeg)) ml))) rfl ⟨trivial, trivial, trivial, trivial, trivial⟩ ?_
          refine ab_wi (fun c => ?_) (fun c => ?_)
          · have h := h.1 c
            exact ab_wk 3 (f' := (78, [some (.ref 2), some (.int y1), some (.int 1), none], [], 0, 0, (ab_G (ab_ui (ab_ui mi 2 4 y1) 2 3 (mi 4 (y1).toNatClampNeg)) ml))) rfl ⟨trivial, trivial, trivial, trivial⟩ h
          · have h := h.2 c
            exact ab_wk 2 (f' := (78, [some (.ref 2), some (.int y1), some (.int 0), none], [], 0, 0, (ab_G (ab_ui (ab_ui mi 2 4 y1) 2 3 (mi 4 (y1).toNatClampNeg)) ml))) rfl ⟨trivial, trivial, trivial⟩ h
      · have h := h.2 c
        refine ab_wk 6 (f' := (if (0 : Int32) = 2 then 72 else 64, [some (.ref 2), some (.int y1), none, none], [], 0, 0, (ab_G (ab_ui (ab_ui mi 2 4 y1) 2 3 0) ml))) rfl ⟨trivial, trivial, trivial, trivial, trivial, trivial, trivial⟩ ?_
        refine ab_wif (c := ((0 : Int32) = 2)) (by decide) ?_
        refine ab_wk 4 (f' := (if (0 : Int32) = 3 then 72 else 76, [some (.ref 2), some (.int y1), none, none], [], 0, 0, (ab_G (ab_ui (ab_ui mi 2 4 y1) 2 3 0) ml))) rfl ⟨trivial, trivial, trivial, trivial, trivial⟩ ?_
        refine ab_wif (c := ((0 : Int32) = 3)) (by decide) ?_
        exact ab_wk 2 (f' := (78, [some (.ref 2), some (.int y1), some (.int 0), none], [], 0, 0, (ab_G (ab_ui (ab_ui mi 2 4 y1) 2 3 0) ml))) rfl ⟨trivial, trivial, trivial⟩ h
  · have h := h.2 c
    refine ab_wk 8 (f' := (if y1 < (mi 2 2) then 43 else 52, [some (.ref 2), some (.int y1), none, none], [.ref 2], 0, 0, (ab_G (ab_ui mi 2 4 y1) ml))) rfl ⟨trivial, trivial, trivial, trivial, trivial, trivial, trivial, trivial, trivial⟩ ?_
    refine ab_wi (fun c => ?_) (fun c => ?_)
    · have h := h.1 c
      obtain ⟨p0, h⟩ := h
      refine ab_wk 10 (f' := (if (mi 4 (y1).toNatClampNeg) = 2 then 72 else 64, [some (.ref 2), some (.int y1), none, none], [], 0, 0, (ab_G (ab_ui (ab_ui mi 2 4 y1) 2 3 (mi 4 (y1).toNatClampNeg)) ml))) rfl ⟨trivial, trivial, trivial, p0, trivial, trivial, trivial, trivial, trivial, trivial, trivial⟩ ?_
      refine ab_wi (fun c => ?_) (fun c => ?_)
      · have h := h.1 c
        exact ab_wk 3 (f' := (78, [some (.ref 2), some (.int y1), some (.int 1), none], [], 0, 0, (ab_G (ab_ui (ab_ui mi 2 4 y1) 2 3 (mi 4 (y1).toNatClampNeg)) ml))) rfl ⟨trivial, trivial, trivial, trivial⟩ h
      · have h := h.2 c
        refine ab_wk 4 (f' := (if (mi 4 (y1).toNatClampNeg) = 3 then 72 else 76, [some (.ref 2), some (.int y1), none, none], [], 0, 0, (ab_G (ab_ui (ab_ui mi 2 4 y1) 2 3 (mi 4 (y1).toNatClampNeg)) ml))) rfl ⟨trivial, trivial, trivial, trivial, trivial⟩ ?_
        refine ab_wi (fun c => ?_) (fun c => ?_)
        · have h := h.1 c
          exact ab_wk 3 (f' := (78, [some (.ref 2), some (.int y1), some (.int 1), none], [], 0, 0, (ab_G (ab_ui (ab_ui mi 2 4 y1) 2 3 (mi 4 (y1).toNatClampNeg)) ml))) rfl ⟨trivial, trivial, trivial, trivial⟩ h
        · have h := h.2 c
          exact ab_wk 2 (f' := (78, [some (.ref 2), some (.int y1), some (.int 0), none], [], 0, 0, (ab_G (ab_ui (ab_ui mi 2 4 y1) 2 3 (mi 4 (y1).toNatClampNeg)) ml))) rfl ⟨trivial, trivial, trivial⟩ h
    · have h := h.2 c
      refine ab_wk 6 (f' := (if (0 : Int32) = 2 then 72 else 64, [some (.ref 2), some (.int y1), none, none], [], 0, 0, (ab_G (ab_ui (ab_ui mi 2 4 y1) 2 3 0) ml))) rfl ⟨trivial, trivial, trivial, trivial, trivial, trivial, trivial⟩ ?_
      refine ab_wif (c := ((0 : Int32) = 2)) (by decide) ?_
      refine ab_wk 4 (f' := (if (0 : Int32) = 3 then 72 else 76, [some (.ref 2), some (.int y1), none, none], [], 0, 0, (ab_G (ab_ui (ab_ui mi 2 4 y1) 2 3 0) ml))) rfl ⟨trivial, trivial, trivial, trivial, trivial⟩ ?_
      refine ab_wif (c := ((0 : Int32) = 3)) (by decide) ?_
      exact ab_wk 2 (f' := (78, [some (.ref 2), some (.int y1), some (.int 0), none], [], 0, 0, (ab_G (ab_ui (ab_ui mi 2 4 y1) 2 3 0) ml))) rfl ⟨trivial, trivial, trivial⟩ h
theorem vc_X8_step_78 {call : Nat → List Value → ab_S → Option Value → ab_S → Prop} {ro : ab_E} {Q : Option Value → ab_S → Prop} (y1 : Int32) (y2 : Int32) (mi : Nat → Nat → Int32) (ml : Nat → Nat → Int64)
    (h : ((y1 < (mi 2 2)) → (((y2 = 0) → (((y2 = 0) → ((((mi 2 3) = 2) → (((8 < ((if (mi 2 2) < (y1 + 1) then (mi 2 2) else (y1 + 1)) - (mi 2 4))) → (Q none (ab_G (ab_ui (ab_ui mi 2 5 (if (mi 2 2) < (y1 + 1) then (mi 2 2) else (y1 + 1))) 2 3 7) ml))) ∧ (¬ (8 < ((if (mi 2 2) < (y1 + 1) then (mi 2 2) else (y1 + 1)) - (mi 2 4))) → ((((mi 2 3) = 3) → (((3 < ((if (mi 2 2) < (y1 + 1) then (mi 2 2) else (y1 + 1)) - (mi 2 4))) → (Q none (ab_G (ab_ui (ab_ui mi 2 5 (if (mi 2 2) < (y1 + 1) then (mi 2 2) else (y1 + 1))) 2 3 7) ml))) ∧ (¬ (3 < ((if (mi 2 2) < (y1 + 1) then (mi 2 2) else (y1 + 1)) - (mi 2 4))) → (Q none (ab_G (ab_ui mi 2 5 (if (mi 2 2) < (y1 + 1) then (mi 2 2) else (y1 + 1))) ml))))) ∧ (¬ ((mi 2 3) = 3) → (Q none (ab_G (ab_ui mi 2 5 (if (mi 2 2) < (y1 + 1) then (mi 2 2) else (y1 + 1))) ml))))))) ∧ (¬ ((mi 2 3) = 2) → ((((mi 2 3) = 3) → (((3 < ((if (mi 2 2) < (y1 + 1) then (mi 2 2) else (y1 + 1)) - (mi 2 4))) → (Q none (ab_G (ab_ui (ab_ui mi 2 5 (if (mi 2 2) < (y1 + 1) then (mi 2 2) else (y1 + 1))) 2 3 7) ml))) ∧ (¬ (3 < ((if (mi 2 2) < (y1 + 1) then (mi 2 2) else (y1 + 1)) - (mi 2 4))) → (Q none (ab_G (ab_ui mi 2 5 (if (mi 2 2) < (y1 + 1) then (mi 2 2) else (y1 + 1))) ml))))) ∧ (¬ ((mi 2 3) = 3) → (Q none (ab_G (ab_ui mi 2 5 (if (mi 2 2) < (y1 + 1) then (mi 2 2) else (y1 + 1))) ml))))))) ∧ (¬ (y2 = 0) → ((((mi 2 3) = 2) → (((8 < (y1 - (mi 2 4))) → (Q none (ab_G (ab_ui (ab_ui mi 2 5 y1) 2 3 7) ml))) ∧ (¬ (8 < (y1 - (mi 2 4))) → ((((mi 2 3) = 3) → (((3 < (y1 - (mi 2 4))) → (Q none (ab_G (ab_ui (ab_ui mi 2 5 y1) 2 3 7) ml))) ∧ (¬ (3 < (y1 - (mi 2 4))) → (Q none (ab_G (ab_ui mi 2 5 y1) ml))))) ∧ (¬ ((mi 2 3) = 3) → (Q none (ab_G (ab_ui mi 2 5 y1) ml))))))) ∧ (¬ ((mi 2 3) = 2) → ((((mi 2 3) = 3) → (((3 < (y1 - (mi 2 4))) → (Q none (ab_G (ab_ui (ab_ui mi 2 5 y1) 2 3 7) ml))) ∧ (¬ (3 < (y1 - (mi 2 4))) → (Q none (ab_G (ab_ui mi 2 5 y1) ml))))) ∧ (¬ ((mi 2 3) = 3) → (Q none (ab_G (ab_ui mi 2 5 y1) ml))))))))) ∧ (¬ (y2 = 0) → (vp_in y1 1000 ∧ ((((mi 4 (y1).toNatClampNeg) = (mi 2 3)) → (ab_W call ro 0 0 (ab_lk2 pl_X8_step) Q (78, [some (.ref 2), some (.int (y1 + 1)), some (.int y2), none], [], 0, 0, (ab_G mi ml)))) ∧ (¬ ((mi 4 (y1).toNatClampNeg) = (mi 2 3)) → (((y2 = 0) → ((((mi 2 3) = 2) → (((8 < ((if (mi 2 2) < (y1 + 1) then (mi 2 2) else (y1 + 1)) - (mi 2 4))) → (Q none (ab_G (ab_ui (ab_ui mi 2 5 (if (mi 2 2) < (y1 + 1) then (mi 2 2) else (y1 + 1))) 2 3 7) ml))) ∧ (¬ (8 < ((if (mi 2 2) < (y1 + 1) then (mi 2 2) else (y1 + 1)) - (mi 2 4))) → ((((mi 2 3) = 3) → (((3 < ((if (mi 2 2) < (y1 + 1) then (mi 2 2) else (y1 + 1)) - (mi 2 4))) → (Q none (ab_G (ab_ui (ab_ui mi 2 5 (if (mi 2 2) < (y1 + 1) then (mi 2 2) else (y1 + 1))) 2 3 7) ml))) ∧ (¬ (3 < ((if (mi 2 2) < (y1 + 1) then (mi 2 2) else (y1 + 1)) - (mi 2 4))) → (Q none (ab_G (ab_ui mi 2 5 (if (mi 2 2) < (y1 + 1) then (mi 2 2) else (y1 + 1))) ml))))) ∧ (¬ ((mi 2 3) = 3) → (Q none (ab_G (ab_ui mi 2 5 (if (mi 2 2) < (y1 + 1) then (mi 2 2) else (y1 + 1))) ml))))))) ∧ (¬ ((mi 2 3) = 2) → ((((mi 2 3) = 3) → (((3 < ((if (mi 2 2) < (y1 + 1) then (mi 2 2) else (y1 + 1)) - (mi 2 4))) → (Q none (ab_G (ab_ui (ab_ui mi 2 5 (if (mi 2 2) < (y1 + 1) then (mi 2 2) else (y1 + 1))) 2 3 7) ml))) ∧ (¬ (3 < ((if (mi 2 2) < (y1 + 1) then (mi 2 2) else (y1 + 1)) - (mi 2 4))) → (Q none (ab_G (ab_ui mi 2 5 (if (mi 2 2) < (y1 + 1) then (mi 2 2) else (y1 + 1))) ml))))) ∧ (¬ ((mi 2 3) = 3) → (Q none (ab_G (ab_ui mi 2 5 (if (mi 2 2) < (y1 + 1) then (mi 2 2) else (y1 + 1))) ml))))))) ∧ (¬ (y2 = 0) → ((((mi 2 3) = 2) → (((8 < (y1 - (mi 2 4))) → (Q none (ab_G (ab_ui (ab_ui mi 2 5 y1) 2 3 7) ml))) ∧ (¬ (8 < (y1 - (mi 2 4))) → ((((mi 2 3) = 3) → (((3 < (y1 - (mi 2 4))) → (Q none (ab_G (ab_ui (ab_ui mi 2 5 y1) 2 3 7) ml))) ∧ (¬ (3 < (y1 - (mi 2 4))) → (Q none (ab_G (ab_ui mi 2 5 y1) ml))))) ∧ (¬ ((mi 2 3) = 3) → (Q none (ab_G (ab_ui mi 2 5 y1) ml))))))) ∧ (¬ ((mi 2 3) = 2) → ((((mi 2 3) = 3) → (((3 < (y1 - (mi 2 4))) → (Q none (ab_G (ab_ui (ab_ui mi 2 5 y1) 2 3 7) ml))) ∧ (¬ (3 < (y1 - (mi 2 4))) → (Q none (ab_G (ab_ui mi 2 5 y1) ml))))) ∧ (¬ ((mi 2 3) = 3) → (Q none (ab_G (ab_ui mi 2 5 y1) ml)))))))))))))) ∧ (¬ (y1 < (mi 2 2)) → (((y2 = 0) → ((((mi 2 3) = 2) → (((8 < ((if (mi 2 2) < (y1 + 1) then (mi 2 2) else (y1 + 1)) - (mi 2 4))) → (Q none (ab_G (ab_ui (ab_ui mi 2 5 (if (mi 2 2) < (y1 + 1) then (mi 2 2) else (y1 + 1))) 2 3 7) ml))) ∧ (¬ (8 < ((if (mi 2 2) < (y1 + 1) then (mi 2 2) else (y1 + 1)) - (mi 2 4))) → ((((mi 2 3) = 3) → (((3 < ((if (mi 2 2) < (y1 + 1) then (mi 2 2) else (y1 + 1)) - (mi 2 4))) → (Q none (ab_G (ab_ui (ab_ui mi 2 5 (if (mi 2 2) < (y1 + 1) then (mi 2 2) else (y1 + 1))) 2 3 7) ml))) ∧ (¬ (3 < ((if (mi 2 2) < (y1 + 1) then (mi 2 2) else (y1 + 1)) - (mi 2 4))) → (Q none (ab_G (ab_ui mi 2 5 (if (mi 2 2) < (y1 + 1) then (mi 2 2) else (y1 + 1))) ml))))) ∧ (¬ ((mi 2 3) = 3) → (Q none (ab_G (ab_ui mi 2 5 (if (mi 2 2) < (y1 + 1) then (mi 2 2) else (y1 + 1))) ml))))))) ∧ (¬ ((mi 2 3) = 2) → ((((mi 2 3) = 3) → (((3 < ((if (mi 2 2) < (y1 + 1) then (mi 2 2) else (y1 + 1)) - (mi 2 4))) → (Q none (ab_G (ab_ui (ab_ui mi 2 5 (if (mi 2 2) < (y1 + 1) then (mi 2 2) else (y1 + 1))) 2 3 7) ml))) ∧ (¬ (3 < ((if (mi 2 2) < (y1 + 1) then (mi 2 2) else (y1 + 1)) - (mi 2 4))) → (Q none (ab_G (ab_ui mi 2 5 (if (mi 2 2) < (y1 + 1) then (mi 2 2) else (y1 + 1))) ml))))) ∧ (¬ ((mi 2 3) = 3) → (Q none (ab_G (ab_ui mi 2 5 (if (mi 2 2) < (y1 + 1) then (mi 2 2) else (y1 + 1))) ml))))))) ∧ (¬ (y2 = 0) → ((((mi 2 3) = 2) → (((8 < (y1 - (mi 2 4))) → (Q none (ab_G (ab_ui (ab_ui mi 2 5 y1) 2 3 7) ml))) ∧ (¬ (8 < (y1 - (mi 2 4))) → ((((mi 2 3) = 3) → (((3 < (y1 - (mi 2 4))) → (Q none (ab_G (ab_ui (ab_ui mi 2 5 y1) 2 3 7) ml))) ∧ (¬ (3 < (y1 - (mi 2 4))) → (Q none (ab_G (ab_ui mi 2 5 y1) ml))))) ∧ (¬ ((mi 2 3) = 3) → (Q none (ab_G (ab_ui mi 2 5 y1) ml))))))) ∧ (¬ ((mi 2 3) = 2) → ((((mi 2 3) = 3) → (((3 < (y1 - (mi 2 4))) → (Q none (ab_G (ab_ui (ab_ui mi 2 5 y1) 2 3 7) ml))) ∧ (¬ (3 < (y1 - (mi 2 4))) → (Q none (ab_G (ab_ui mi 2 5 y1) ml))))) ∧ (¬ ((mi 2 3) = 3) → (Q none (ab_G (ab_ui mi 2 5 y1) ml)))))))))) :
    ab_W call ro 0 0 (ab_lk2 pl_X8_step) Q (78, [some (.ref 2), some (.int y1), some (.int y2), none], [], 0, 0, ab_G mi ml) := by
  refine ab_wk 4 (f' := (if y1 < (mi 2 2) then 86 else 109, [some (.ref 2), some (.int y1), some (.int y2), none], [], 0, 0, (ab_G mi ml))) rfl ⟨trivial, trivial, trivial, trivial, trivial⟩ ?_
  refine ab_wi (fun c => ?_) (fun c => ?_)
  · have h := h.1 c
    refine ab_wk 2 (f' := (if y2 = 0 then 109 else 90, [some (.ref 2), some (.int y1), some (.int y2), none], [], 0, 0, (ab_G mi ml))) rfl ⟨trivial, trivial, trivial⟩ ?_
    refine ab_wi (fun c => ?_) (fun c => ?_)
    · have h := h.1 c
      refine ab_wk 3 (f' := (if y2 = 0 then 118 else 114, [some (.ref 2), some (.int y1), some (.int y2), none], [.ref 2], 0, 0, (ab_G mi ml))) rfl ⟨trivial, trivial, trivial, trivial⟩ ?_
      refine ab_wi (fun c => ?_) (fun c => ?_)
      · have h := h.1 c
        refine ab_wk 17 (f' := (if (mi 2 3) = 2 then 149 else 155, [some (.ref 2), some (.int y1), some (.int y2), some (.int ((if (mi 2 2) < (y1 + 1) then (mi 2 2) else (y1 + 1)) - (mi 2 4)))], [], 0, 0, (ab_G (ab_ui mi 2 5 (if (mi 2 2) < (y1 + 1) then (mi 2 2) else (y1 + 1))) ml))) rfl ⟨trivial, trivial, trivial, trivial, trivial, trivial, trivial, trivial, trivial, trivial, trivial, trivial, trivial, trivial, trivial, trivial, trivial, trivial⟩ ?_
        refine ab_wi (fun c => ?_) (fun c => ?_)
        · have h := h.1 c
          refine ab_wk 3 (f' := (if 8 < ((if (mi 2 2) < (y1 + 1) then (mi 2 2) else (y1 + 1)) - (mi 2 4)) then 168 else 155, [some (.ref 2), some (.int y1), some (.int y2), some (.int ((if (mi 2 2) < (y1 + 1) then (mi 2 2) else (y1 + 1)) - (mi 2 4)))], [], 0, 0, (ab_G (ab_ui mi 2 5 (if (mi 2 2) < (y1 + 1) then (mi 2 2) else (y1 + 1))) ml))) rfl ⟨trivial, trivial, trivial, trivial⟩ ?_
          refine ab_wi (fun c => ?_) (fun c => ?_)
          · have h := h.1 c
            exact ab_wr 4 rfl ⟨trivial, trivial, trivial, trivial⟩ h
          · have h := h.2 c
            refine ab_wk 4 (f' := (if (mi 2 3) = 3 then 163 else 174, [some (.ref 2), some (.int y1), some (.int y2), some (.int ((if (mi 2 2) < (y1 + 1) then (mi 2 2) else (y1 + 1)) - (mi 2 4)))], [], 0, 0, (ab_G (ab_ui mi 2 5 (if (mi 2 2) < (y1 + 1) then (mi 2 2) else (y1 + 1))) ml))) rfl ⟨trivial, trivial, trivial, trivial, trivial⟩ ?_
            refine ab_wi (fun c => ?_) (fun c => ?_)
            · have h := h.1 c
              refine ab_wk 3 (f' := (if 3 < ((if (mi 2 2) < (y1 + 1) then (mi 2 2) else (y1 + 1)) - (mi 2 4)) then 168 else 174, [some (.ref 2), some (.int y1), some (.int y2), some (.int ((if (mi 2 2) < (y1 + 1) then (mi 2 2) else (y1 + 1)) - (mi 2 4)))], [], 0, 0, (ab_G (ab_ui mi 2 5 (if (mi 2 2) < (y1 + 1) then (mi 2 2) else (y1 + 1))) ml))) rfl ⟨trivial, trivial, trivial, trivial⟩ ?_
              refine ab_wi (fun c => ?_) (fun c => ?_)
              · have h := h.1 c
                exact ab_wr 4 rfl ⟨trivial, trivial, trivial, trivial⟩ h
              · have h := h.2 c
                exact ab_wr 1 rfl trivial h
            · have h := h.2 c
              exact ab_wr 1 rfl trivial h
        · have h := h.2 c
          refine ab_wk 4 (f' := (if (mi 2 3) = 3 then 163 else 174, [some (.ref 2), some (.int y1), some (.int y2), some (.int ((if (mi 2 2) < (y1 + 1) then (mi 2 2) else (y1 + 1)) - (mi 2 4)))], [], 0, 0, (ab_G (ab_ui mi 2 5 (if (mi 2 2) < (y1 + 1) then (mi 2 2) else (y1 + 1))) ml))) rfl ⟨trivial, trivial, trivial, trivial, trivial⟩ ?_
          refine ab_wi (fun c => ?_) (fun c => ?_)
          · have h := h.1 c
            refine ab_wk 3 (f' := (if 3 < ((if (mi 2 2) < (y1 + 1) then (mi 2 2) else (y1 + 1)) - (mi 2 4)) then 168 else 174, [some (.ref 2), some (.int y1), some (.int y2), some (.int ((if (mi 2 2) < (y1 + 1) then (mi 2 2) else (y1 + 1)) - (mi 2 4)))], [], 0, 0, (ab_G (ab_ui mi 2 5 (if (mi 2 2) < (y1 + 1) then (mi 2 2) else (y1 + 1))) ml))) rfl ⟨trivial, trivial, trivial, trivial⟩ ?_
            refine ab_wi (fun c => ?_) (fun c => ?_)
            · have h := h.1 c
              exact ab_wr 4 rfl ⟨trivial, trivial, trivial, trivial⟩ h
            · have h := h.2 c
              exact ab_wr 1 rfl trivial h
          · have h := h.2 c
            exact ab_wr 1 rfl trivial h
      · have h := h.2 c
        refine ab_wk 13 (f' := (if (mi 2 3) = 2 then 149 else 155, [some (.ref 2), some (.int y1), some (.int y2), some (.int (y1 - (mi 2 4)))], [], 0, 0, (ab_G (ab_ui mi 2 5 y1) ml))) rfl ⟨trivial, trivial, trivial, trivial, trivial, trivial, trivial, trivial, trivial, trivial, trivial, trivial, trivial, trivial⟩ ?_
        refine ab_wi (fun c => ?_) (fun c => ?_)
        · have h := h.1 c
          refine ab_wk 3 (f' := (if 8 < (y1 - (mi 2 4)) then 168 else 155, [some (.ref 2), some (.int y1), some (.int y2), some (.int (y1 - (mi 2 4)))], [], 0, 0, (ab_G (ab_ui mi 2 5 y1) ml))) rfl ⟨trivial, trivial, trivial, trivial⟩ ?_
          refine ab_wi (fun c => ?_) (fun c => ?_)
          · have h := h.1 c
            exact ab_wr 4 rfl ⟨trivial, trivial, trivial, trivial⟩ h
          · have h := h.2 c
            refine ab_wk 4 (f' := (if (mi 2 3) = 3 then 163 else 174, [some (.ref 2), some (.int y1), some (.int y2), some (.int (y1 - (mi 2 4)))], [], 0, 0, (ab_G (ab_ui mi 2 5 y1) ml))) rfl ⟨trivial, trivial, trivial, trivial, trivial⟩ ?_
            refine ab_wi (fun c => ?_) (fun c => ?_)
            · have h := h.1 c
              refine ab_wk 3 (f' := (if 3 < (y1 - (mi 2 4)) then 168 else 174, [some (.ref 2), some (.int y1), some (.int y2), some (.int (y1 - (mi 2 4)))], [], 0, 0, (ab_G (ab_ui mi 2 5 y1) ml))) rfl ⟨trivial, trivial, trivial, trivial⟩ ?_
              refine ab_wi (fun c => ?_) (fun c => ?_)
              · have h := h.1 c
                exact ab_wr 4 rfl ⟨trivial, trivial, trivial, trivial⟩ h
              · have h := h.2 c
                exact ab_wr 1 rfl trivial h
            · have h := h.2 c
              exact ab_wr 1 rfl trivial h
        · have h := h.2 c
          refine ab_wk 4 (f' := (if (mi 2 3) = 3 then 163 else 174, [some (.ref 2), some (.int y1), some (.int y2), some (.int (y1 - (mi 2 4)))], [], 0, 0, (ab_G (ab_ui mi 2 5 y1) ml))) rfl ⟨trivial, trivial, trivial, trivial, trivial⟩ ?_
          refine ab_wi (fun c => ?_) (fun c => ?_)
          · have h := h.1 c
            refine ab_wk 3 (f' := (if 3 < (y1 - (mi 2 4)) then 168 else 174, [some (.ref 2), some (.int y1), some (.int y2), some (.int (y1 - (mi 2 4)))], [], 0, 0, (ab_G (ab_ui mi 2 5 y1) ml))) rfl ⟨trivial, trivial, trivial, trivial⟩ ?_
            refine ab_wi (fun c => ?_) (fun c => ?_)
            · have h := h.1 c
              exact ab_wr 4 rfl ⟨trivial, trivial, trivial, trivial⟩ h
            · have h := h.2 c
              exact ab_wr 1 rfl trivial h
          · have h := h.2 c
            exact ab_wr 1 rfl trivial h
    · have h := h.2 c
      obtain ⟨p0, h⟩ := h
      refine ab_wk 7 (f' := (if (mi 4 (y1).toNatClampNeg) = (mi 2 3) then 103 else 109, [some (.ref 2), some (.int y1), some (.int y2), none], [], 0, 0, (ab_G mi ml))) rfl ⟨trivial, trivial, trivial, p0, trivial, trivial, trivial, trivial⟩ ?_
      refine ab_wi (fun c => ?_) (fun c => ?_)
      · have h := h.1 c
        exact ab_wk 2 (f' := (78, [some (.ref 2), some (.int (y1 + 1)), some (.int y2), none], [], 0, 0, (ab_G mi ml))) rfl ⟨trivial, trivial, trivial⟩ h
      · have h := h.2 c
        refine ab_wk 3 (f' := (if y2 = 0 then 118 else 114, [some (.ref 2), some (.int y1), some (.int y2), none], [.ref 2], 0, 0, (ab_G mi ml))) rfl ⟨trivial, trivial, trivial, trivial⟩ ?_
        refine ab_wi (fun c => ?_) (fun c => ?_)
        · have h := h.1 c
          refine ab_wk 17 (f' := (if (mi 2 3) = 2 then 149 else 155, [some (.ref 2), some (.int y1), some (.int y2), some (.int ((if (mi 2 2) < (y1 + 1) then (mi 2 2) else (y1 + 1)) - (mi 2 4)))], [], 0, 0, (ab_G (ab_ui mi 2 5 (if (mi 2 2) < (y1 + 1) then (mi 2 2) else (y1 + 1))) ml))) rfl ⟨trivial, trivial, trivial, trivial, trivial, trivial, trivial, trivial, trivial, trivial, trivial, trivial, trivial, trivial, trivial, trivial, trivial, trivial⟩ ?_
          refine ab_wi (fun c => ?_) (fun c => ?_)
          · have h := h.1 c
            refine ab_wk 3 (f' := (if 8 < ((if (mi 2 2) < (y1 + 1) then (mi 2 2) else (y1 + 1)) - (mi 2 4)) then 168 else 155, [some (.ref 2), some (.int y1), some (.int y2), some (.int ((if (mi 2 2) < (y1 + 1) then (mi 2 2) else (y1 + 1)) - (mi 2 4)))], [], 0, 0, (ab_G (ab_ui mi 2 5 (if (mi 2 2) < (y1 + 1) then (mi 2 2) else (y1 + 1))) ml))) rfl ⟨trivial, trivial, trivial, trivial⟩ ?_
            refine ab_wi (fun c => ?_) (fun c => ?_)
            · have h := h.1 c
              exact ab_wr 4 rfl ⟨trivial, trivial, trivial, trivial⟩ h
            · have h := h.2 c
              refine ab_wk 4 (f' := (if (mi 2 3) = 3 then 163 else 174, [some (.ref 2), some (.int y1), some (.int y2), some (.int ((if (mi 2 2) < (y1 + 1) then (mi 2 2) else (y1 + 1)) - (mi 2 4)))], [], 0, 0, (ab_G (ab_ui mi 2 5 (if (mi 2 2) < (y1 + 1) then (mi 2 2) else (y1 + 1))) ml))) rfl ⟨trivial, trivial, trivial, trivial, trivial⟩ ?_
              refine ab_wi (fun c => ?_) (fun c => ?_)
              · have h := h.1 c
                refine ab_wk 3 (f' := (if 3 < ((if (mi 2 2) < (y1 + 1) then (mi 2 2) else (y1 + 1)) - (mi 2 4)) then 168 else 174, [some (.ref 2), some (.int y1), some (.int y2), some (.int ((if (mi 2 2) < (y1 + 1) then (mi 2 2) else (y1 + 1)) - (mi 2 4)))], [], 0, 0, (ab_G (ab_ui mi 2 5 (if (mi 2 2) < (y1 + 1) then (mi 2 2) else (y1 + 1))) ml))) rfl ⟨trivial, trivial, trivial, trivial⟩ ?_
                refine ab_wi (fun c => ?_) (fun c => ?_)
                · have h := h.1 c
                  exact ab_wr 4 rfl ⟨trivial, trivial, trivial, trivial⟩ h
                · have h := h.2 c
                  exact ab_wr 1 rfl trivial h
              · have h := h.2 c
                exact ab_wr 1 rfl trivial h
          · have h := h.2 c
            refine ab_wk 4 (f' := (if (mi 2 3) = 3 then 163 else 174, [some (.ref 2), some (.int y1), some (.int y2), some (.int ((if (mi 2 2) < (y1 + 1) then (mi 2 2) else (y1 + 1)) - (mi 2 4)))], [], 0, 0, (ab_G (ab_ui mi 2 5 (if (mi 2 2) < (y1 + 1) then (mi 2 2) else (y1 + 1))) ml))) rfl ⟨trivial, trivial, trivial, trivial, trivial⟩ ?_
            refine ab_wi (fun c => ?_) (fun c => ?_)
            · have h := h.1 c
              refine ab_wk 3 (f' := (if 3 < ((if (mi 2 2) < (y1 + 1) then (mi 2 2) else (y1 + 1)) - (mi 2 4)) then 168 else 174, [some (.ref 2), some (.int y1), some (.int y2), some (.int ((if (mi 2 2) < (y1 + 1) then (mi 2 2) else (y1 + 1)) - (mi 2 4)))], [], 0, 0, (ab_G (ab_ui mi 2 5 (if (mi 2 2) < (y1 + 1) then (mi 2 2) else (y1 + 1))) ml))) rfl ⟨trivial, trivial, trivial, trivial⟩ ?_
              refine ab_wi (fun c => ?_) (fun c => ?_)
              · have h := h.1 c
                exact ab_wr 4 rfl ⟨trivial, trivial, trivial, trivial⟩ h
              · have h := h.2 c
                exact ab_wr 1 rfl trivial h
            · have h := h.2 c
              exact ab_wr 1 rfl trivial h
        · have h := h.2 c
          refine ab_wk 13 (f' := (if (mi 2 3) = 2 then 149 else 155, [some (.ref 2), some (.int y1), some (.int y2), some (.int (y1 - (mi 2 4)))], [], 0, 0, (ab_G (ab_ui mi 2 5 y1) ml))) rfl ⟨trivial, trivial, trivial, trivial, trivial, trivial, trivial, trivial, trivial, trivial, trivial, trivial, trivial, trivial⟩ ?_
          refine ab_wi (fun c => ?_) (fun c => ?_)
          · have h := h.1 c
            refine ab_wk 3 (f' := (if 8 < (y1 - (mi 2 4)) then 168 else 155, [some (.ref 2), some (.int y1), some (.int y2), some (.int (y1 - (mi 2 4)))], [], 0, 0, (ab_G (ab_ui mi 2 5 y1) ml))) rfl ⟨trivial, trivial, trivial, trivial⟩ ?_
            refine ab_wi (fun c => ?_) (fun c => ?_)
            · have h := h.1 c
              exact ab_wr 4 rfl ⟨trivial, trivial, trivial, trivial⟩ h
            · have h := h.2 c
              refine ab_wk 4 (f' := (if (mi 2 3) = 3 then 163 else 174, [some (.ref 2), some (.int y1), some (.int y2), some (.int (y1 - (mi 2 4)))], [], 0, 0, (ab_G (ab_ui mi 2 5 y1) ml))) rfl ⟨trivial, trivial, trivial, trivial, trivial⟩ ?_
              refine ab_wi (fun c => ?_) (fun c => ?_)
              · have h := h.1 c
                refine ab_wk 3 (f' := (if 3 < (y1 - (mi 2 4)) then 168 else 174, [some (.ref 2), some (.int y1), some (.int y2), some (.int (y1 - (mi 2 4)))], [], 0, 0, (ab_G (ab_ui mi 2 5 y1) ml))) rfl ⟨trivial, trivial, trivial, trivial⟩ ?_
                refine ab_wi (fun c => ?_) (fun c => ?_)
                · have h := h.1 c
                  exact ab_wr 4 rfl ⟨trivial, trivial, trivial, trivial⟩ h
                · have h := h.2 c
                  exact ab_wr 1 rfl trivial h
              · have h := h.2 c
                exact ab_wr 1 rfl trivial h
          · have h := h.2 c
            refine ab_wk 4 (f' := (if (mi 2 3) = 3 then 163 else 174, [some (.ref 2), some (.int y1), some (.int y2), some (.int (y1 - (mi 2 4)))], [], 0, 0, (ab_G (ab_ui mi 2 5 y1) ml))) rfl ⟨trivial, trivial, trivial, trivial, trivial⟩ ?_
            refine ab_wi (fun c => ?_) (fun c => ?_)
            · have h := h.1 c
              refine ab_wk 3 (f' := (if 3 < (y1 - (mi 2 4)) then 168 else 174, [some (.ref 2), some (.int y1), some (.int y2), some (.int (y1 - (mi 2 4)))], [], 0, 0, (ab_G (ab_ui mi 2 5 y1) ml))) rfl ⟨trivial, trivial, trivial, trivial⟩ ?_
              refine ab_wi (fun c => ?_) (fun c => ?_)
              · have h := h.1 c
                exact ab_wr 4 rfl ⟨trivial, trivial, trivial, trivial⟩ h
              · have h := h.2 c
                exact ab_wr 1 rfl trivial h
            · have h := h.2 c
              exact ab_wr 1 rfl trivial h
  · have h := h.2 c
    refine ab_wk 3 (f' := (if y2 = 0 then 118 else 114, [some (.ref 2), some (.int y1), some (.int y2), none], [.ref 2], 0, 0, (ab_G mi ml))) rfl ⟨trivial, trivial, trivial, trivial⟩ ?_
    refine ab_wi (fun c => ?_) (fun c => ?_)
    · have h := h.1 c
      refine ab_wk 17 (f' := (if (mi 2 3) = 2 then 149 else 155, [some (.ref 2), some (.int y1), some (.int y2), some (.int ((if (mi 2 2) < (y1 + 1) then (mi 2 2) else (y1 + 1)) - (mi 2 4)))], [], 0, 0, (ab_G (ab_ui mi 2 5 (if (mi 2 2) < (y1 + 1) then (mi 2 2) else (y1 + 1))) ml))) rfl ⟨trivial, trivial, trivial, trivial, trivial, trivial, trivial, trivial, trivial, trivial, trivial, trivial, trivial, trivial, trivial, trivial, trivial, trivial⟩ ?_
      refine ab_wi (fun c => ?_) (fun c => ?_)
      · have h := h.1 c
        refine ab_wk 3 (f' := (if 8 < ((if (mi 2 2) < (y1 + 1) then (mi 2 2) else (y1 + 1)) - (mi 2 4)) then 168 else 155, [some (.ref 2), some (.int y1), some (.int y2), some (.int ((if (mi 2 2) < (y1 + 1) then (mi 2 2) else (y1 + 1)) - (mi 2 4)))], [], 0, 0, (ab_G (ab_ui mi 2 5 (if (mi 2 2) < (y1 + 1) then (mi 2 2) else (y1 + 1))) ml))) rfl ⟨trivial, trivial, trivial, trivial⟩ ?_
        refine ab_wi (fun c => ?_) (fun c => ?_)
        · have h := h.1 c
          exact ab_wr 4 rfl ⟨trivial, trivial, trivial, trivial⟩ h
        · have h := h.2 c
          refine ab_wk 4 (f' := (if (mi 2 3) = 3 then 163 else 174, [some (.ref 2), some (.int y1), some (.int y2), some (.int ((if (mi 2 2) < (y1 + 1) then (mi 2 2) else (y1 + 1)) - (mi 2 4)))], [], 0, 0, (ab_G (ab_ui mi 2 5 (if (mi 2 2) < (y1 + 1) then (mi 2 2) else (y1 + 1))) ml))) rfl ⟨trivial, trivial, trivial, trivial, trivial⟩ ?_
          refine ab_wi (fun c => ?_) (fun c => ?_)
          · have h := h.1 c
            refine ab_wk 3 (f' := (if 3 < ((if (mi 2 2) < (y1 + 1) then (mi 2 2) else (y1 + 1)) - (mi 2 4)) then 168 else 174, [some (.ref 2), some (.int y1), some (.int y2), some (.int ((if (mi 2 2) < (y1 + 1) then (mi 2 2) else (y1 + 1)) - (mi 2 4)))], [], 0, 0, (ab_G (ab_ui mi 2 5 (if (mi 2 2) < (y1 + 1) then (mi 2 2) else (y1 + 1))) ml))) rfl ⟨trivial, trivial, trivial, trivial⟩ ?_
            refine ab_wi (fun c => ?_) (fun c => ?_)
            · have h := h.1 c
              exact ab_wr 4 rfl ⟨trivial, trivial, trivial, trivial⟩ h
            · have h := h.2 c
              exact ab_wr 1 rfl trivial h
          · have h := h.2 c
            exact ab_wr 1 rfl trivial h
      · have h := h.2 c
        refine ab_wk 4 (f' := (if (mi 2 3) = 3 then 163 else 174, [some (.ref 2), some (.int y1), some (.int y2), some (.int ((if (mi 2 2) < (y1 + 1) then (mi 2 2) else (y1 + 1)) - (mi 2 4)))], [], 0, 0, (ab_G (ab_ui mi 2 5 (if (mi 2 2) < (y1 + 1) then (mi 2 2) else (y1 + 1))) ml))) rfl ⟨trivial, trivial, trivial, trivial, trivial⟩ ?_
        refine ab_wi (fun c => ?_) (fun c => ?_)
        · have h := h.1 c
          refine ab_wk 3 (f' := (if 3 < ((if (mi 2 2) < (y1 + 1) then (mi 2 2) else (y1 + 1)) - (mi 2 4)) then 168 else 174, [some (.ref 2), some (.int y1), some (.int y2), some (.int ((if (mi 2 2) < (y1 + 1) then (mi 2 2) else (y1 + 1)) - (mi 2 4)))], [], 0, 0, (ab_G (ab_ui mi 2 5 (if (mi 2 2) < (y1 + 1) then (mi 2 2) else (y1 + 1))) ml))) rfl ⟨trivial, trivial, trivial, trivial⟩ ?_
          refine ab_wi (fun c => ?_) (fun c => ?_)
          · have h := h.1 c
            exact ab_wr 4 rfl ⟨trivial, trivial, trivial, trivial⟩ h
          · have h := h.2 c
            exact ab_wr 1 rfl trivial h
        · have h := h.2 c
          exact ab_wr 1 rfl trivial h
    · have h := h.2 c
      refine ab_wk 13 (f' := (if (mi 2 3) = 2 then 149 else 155, [some (.ref 2), some (.int y1), some (.int y2), some (.int (y1 - (mi 2 4)))], [], 0, 0, (ab_G (ab_ui mi 2 5 y1) ml))) rfl ⟨trivial, trivial, trivial, trivial, trivial, trivial, trivial, trivial, trivial, trivial, trivial, trivial, trivial, trivial⟩ ?_
      refine ab_wi (fun c => ?_) (fun c => ?_)
      · have h := h.1 c
        refine ab_wk 3 (f' := (if 8 < (y1 - (mi 2 4)) then 168 else 155, [some (.ref 2), some (.int y1), some (.int y2), some (.int (y1 - (mi 2 4)))], [], 0, 0, (ab_G (ab_ui mi 2 5 y1) ml))) rfl ⟨trivial, trivial, trivial, trivial⟩ ?_
        refine ab_wi (fun c => ?_) (fun c => ?_)
        · have h := h.1 c
          exact ab_wr 4 rfl ⟨trivial, trivial, trivial, trivial⟩ h
        · have h := h.2 c
          refine ab_wk 4 (f' := (if (mi 2 3) = 3 then 163 else 174, [some (.ref 2), some (.int y1), some (.int y2), some (.int (y1 - (mi 2 4)))], [], 0, 0, (ab_G (ab_ui mi 2 5 y1) ml))) rfl ⟨trivial, trivial, trivial, trivial, trivial⟩ ?_
          refine ab_wi (fun c => ?_) (fun c => ?_)
          · have h := h.1 c
            refine ab_wk 3 (f' := (if 3 < (y1 - (mi 2 4)) then 168 else 174, [some (.ref 2), some (.int y1), some (.int y2), some (.int (y1 - (mi 2 4)))], [], 0, 0, (ab_G (ab_ui mi 2 5 y1) ml))) rfl ⟨trivial, trivial, trivial, trivial⟩ ?_
            refine ab_wi (fun c => ?_) (fun c => ?_)
            · have h := h.1 c
              exact ab_wr 4 rfl ⟨trivial, trivial, trivial, trivial⟩ h
            · have h := h.2 c
              exact ab_wr 1 rfl trivial h
          · have h := h.2 c
            exact ab_wr 1 rfl trivial h
      · have h := h.2 c
        refine ab_wk 4 (f' := (if (mi 2 3) = 3 then 163 else 174, [some (.ref 2), some (.int y1), some (.int y2), some (.int (y1 - (mi 2 4)))], [], 0, 0, (ab_G (ab_ui mi 2 5 y1) ml))) rfl ⟨trivial, trivial, trivial, trivial, trivial⟩ ?_
        refine ab_wi (fun c => ?_) (fun c => ?_)
        · have h := h.1 c
          refine ab_wk 3 (f' := (if 3 < (y1 - (mi 2 4)) then 168 else 174, [some (.ref 2), some (.int y1), some (.int y2), some (.int (y1 - (mi 2 4)))], [], 0, 0, (ab_G (ab_ui mi 2 5 y1) ml))) rfl ⟨trivial, trivial, trivial, trivial⟩ ?_
          refine ab_wi (fun c => ?_) (fun c => ?_)
          · have h := h.1 c
            exact ab_wr 4 rfl ⟨trivial, trivial, trivial, trivial⟩ h
          · have h := h.2 c
            exact ab_wr 1 rfl trivial h
        · have h := h.2 c
          exact ab_wr 1 rfl trivial h
theorem vc_X8_atom_0 {call : Nat → List Value → ab_S → Option Value → ab_S → Prop} {ro : ab_E} {Q : Option Value → ab_S → Prop}  (mi : Nat → Nat → Int32) (ml : Nat → Nat → Int64)
    (h : (((mi 2 3) = 2) → (((((mi 2 5) - (mi 2 4)) = 1) → ((((mi 2 4) < (mi 2 2)) → (vp_in (mi 2 4) 1000 ∧ (((((mi 3 ((mi 2 4)).toNatClampNeg) - 97) < 0) → (Q (some (.int (-1))) (ab_G mi ml))) ∧ (¬ (((mi 3 ((mi 2 4)).toNatClampNeg) - 97) < 0) → (((((mi 3 ((mi 2 4)).toNatClampNeg) - 97) < 7) → (Q (some (.int ((mi 3 ((mi 2 4)).toNatClampNeg) - 97))) (ab_G mi ml))) ∧ (¬ (((mi 3 ((mi 2 4)).toNatClampNeg) - 97) < 7) → (Q (some (.int (-1))) (ab_G mi ml)))))))) ∧ (¬ ((mi 2 4) < (mi 2 2)) → (Q (some (.int (-1))) (ab_G mi ml))))) ∧ (¬ (((mi 2 5) - (mi 2 4)) = 1) → (Q (some (.int (-1))) (ab_G mi ml))))) ∧ (¬ ((mi 2 3) = 2) → (Q (some (.int (-1))) (ab_G mi ml)))) :
    ab_W call ro 0 0 (ab_lk2 pl_X8_atom) Q (0, [some (.ref 2), none], [], 0, 0, ab_G mi ml) := by
  refine ab_wk 4 (f' := (if (mi 2 3) = 2 then 8 else 32, [some (.ref 2), none], [], 0, 0, (ab_G mi ml))) rfl ⟨trivial, trivial, trivial, trivial, trivial⟩ ?_
  refine ab_wi (fun c => ?_) (fun c => ?_)
  · have h := h.1 c
    refine ab_wk 7 (f' := (if ((mi 2 5) - (mi 2 4)) = 1 then 21 else 32, [some (.ref 2), none], [], 0, 0, (ab_G mi ml))) rfl ⟨trivial, trivial, trivial, trivial, trivial, trivial, trivial, trivial⟩ ?_
    refine ab_wi (fun c => ?_) (fun c => ?_)
    · have h := h.1 c
      refine ab_wk 5 (f' := (if (mi 2 4) < (mi 2 2) then 34 else 32, [some (.ref 2), none], [], 0, 0, (ab_G mi ml))) rfl ⟨trivial, trivial, trivial, trivial, trivial, trivial⟩ ?_
      refine ab_wi (fun c => ?_) (fun c => ?_)
      · have h := h.1 c
        obtain ⟨p0, h⟩ := h
        refine ab_wk 10 (f' := (if ((mi 3 ((mi 2 4)).toNatClampNeg) - 97) < 0 then 61 else 51, [some (.ref 2), some (.int ((mi 3 ((mi 2 4)).toNatClampNeg) - 97))], [], 0, 0, (ab_G mi ml))) rfl ⟨trivial, trivial, trivial, trivial, p0, trivial, trivial, trivial, trivial, trivial, trivial⟩ ?_
        refine ab_wi (fun c => ?_) (fun c => ?_)
        · have h := h.1 c
          exact ab_wr 2 rfl ⟨trivial, trivial⟩ h
        · have h := h.2 c
          refine ab_wk 3 (f' := (if ((mi 3 ((mi 2 4)).toNatClampNeg) - 97) < 7 then 57 else 61, [some (.ref 2), some (.int ((mi 3 ((mi 2 4)).toNatClampNeg) - 97))], [], 0, 0, (ab_G mi ml))) rfl ⟨trivial, trivial, trivial, trivial⟩ ?_
          refine ab_wi (fun c => ?_) (fun c => ?_)
          · have h := h.1 c
            exact ab_wr 3 rfl ⟨trivial, trivial, trivial⟩ h
          · have h := h.2 c
            exact ab_wr 2 rfl ⟨trivial, trivial⟩ h
      · have h := h.2 c
        exact ab_wr 2 rfl ⟨trivial, trivial⟩ h
    · have h := h.2 c
      exact ab_wr 2 rfl ⟨trivial, trivial⟩ h
  · have h := h.2 c
    exact ab_wr 2 rfl ⟨trivial, trivial⟩ h
theorem vc_X8_value_0 {call : Nat → List Value → ab_S → Option Value → ab_S → Prop} {ro : ab_E} {Q : Option Value → ab_S → Prop}  (mi : Nat → Nat → Int32) (ml : Nat → Nat → Int64)
    (h : ab_W call ro 0 0 (ab_lk2 pl_X8_value) Q (7, [some (.ref 2), some (.int 0), some (.int (mi 2 4))], [], 0, 0, (ab_G mi ml))) :
    ab_W call ro 0 0 (ab_lk2 pl_X8_value) Q (0, [some (.ref 2), none, none], [], 0, 0, ab_G mi ml) := by
  exact ab_wk 5 (f' := (7, [some (.ref 2), some (.int 0), some (.int (mi 2 4))], [], 0, 0, (ab_G mi ml))) rfl ⟨trivial, trivial, trivial, trivial, trivial, trivial⟩ h
theorem vc_X8_value_7 {call : Nat → List Value → ab_S → Option Value → ab_S → Prop} {ro : ab_E} {Q : Option Value → ab_S → Prop} (y1 : Int32) (y2 : Int32) (mi : Nat → Nat → Int32) (ml : Nat → Nat → Int64)
    (h : ((y2 < (mi 2 5)) → (((y2 < (mi 2 2)) → (vp_in y2 1000 ∧ (ab_W call ro 0 0 (ab_lk2 pl_X8_value) Q (7, [some (.ref 2), some (.int (((y1 * 10) + (mi 3 (y2).toNatClampNeg)) - 48)), some (.int (y2 + 1))], [], 0, 0, (ab_G mi ml))))) ∧ (¬ (y2 < (mi 2 2)) → (Q (some (.int y1)) (ab_G mi ml))))) ∧ (¬ (y2 < (mi 2 5)) → (Q (some (.int y1)) (ab_G mi ml)))) :
    ab_W call ro 0 0 (ab_lk2 pl_X8_value) Q (7, [some (.ref 2), some (.int y1), some (.int y2)], [], 0, 0, ab_G mi ml) := by
  refine ab_wk 4 (f' := (if y2 < (mi 2 5) then 15 else 44, [some (.ref 2), some (.int y1), some (.int y2)], [], 0, 0, (ab_G mi ml))) rfl ⟨trivial, trivial, trivial, trivial, trivial⟩ ?_
  refine ab_wi (fun c => ?_) (fun c => ?_)
  · have h := h.1 c
    refine ab_wk 4 (f' := (if y2 < (mi 2 2) then 23 else 44, [some (.ref 2), some (.int y1), some (.int y2)], [], 0, 0, (ab_G mi ml))) rfl ⟨trivial, trivial, trivial, trivial, trivial⟩ ?_
    refine ab_wi (fun c => ?_) (fun c => ?_)
    · have h := h.1 c
      obtain ⟨p0, h⟩ := h
      exact ab_wk 13 (f' := (7, [some (.ref 2), some (.int (((y1 * 10) + (mi 3 (y2).toNatClampNeg)) - 48)), some (.int (y2 + 1))], [], 0, 0, (ab_G mi ml))) rfl ⟨trivial, trivial, trivial, trivial, trivial, trivial, p0, trivial, trivial, trivial, trivial, trivial, trivial, trivial⟩ h
    · have h := h.2 c
      exact ab_wr 2 rfl ⟨trivial, trivial⟩ h
  · have h := h.2 c
    exact ab_wr 2 rfl ⟨trivial, trivial⟩ h
