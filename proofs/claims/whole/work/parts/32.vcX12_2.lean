theorem vc_X12_reachOf_0 {call : Nat → List Value → ab_S → Option Value → ab_S → Prop} {ro : ab_E} {Q : Option Value → ab_S → Prop} (x1 : Int32) (mi : Nat → Nat → Int32) (ml : Nat → Nat → Int64)
    (h : ∃ (mi1 : Nat → Nat → Int32) (ml2 : Nat → Nat → Int64), call 190 [.ref 40] (ab_G mi ml) none (ab_G mi1 ml2) ∧ (∃ (mi3 : Nat → Nat → Int32) (ml4 : Nat → Nat → Int64), call 210 [.ref 40, .int ((1 : Int32) <<< (x1 &&& 31))] (ab_G mi1 ml2) none (ab_G mi3 ml4) ∧ (∃ (mi5 : Nat → Nat → Int32) (ml6 : Nat → Nat → Int64), call 187 [.ref 40] (ab_G mi3 ml4) none (ab_G mi5 ml6) ∧ (ab_W call ro 0 0 (ab_lk2 pl_X12_reachOf) Q (32, [some (.ref 40), some (.int x1), some (.long (ml2 40 40)), none, some (.long (ml2 40 41)), none, some (.int 0), some (.int 0)], [], 0, 0, (ab_G mi5 ml6)))))) :
    ab_W call ro 0 0 (ab_lk2 pl_X12_reachOf) Q (0, [some (.ref 40), some (.int x1), none, none, none, none, none, none], [], 0, 0, ab_G mi ml) := by
  obtain ⟨mi1, ml2, hc, h⟩ := h
  refine ab_wc 2 (c := 190) (as := [.ref 40]) (pc := 4) (ll := [some (.ref 40), some (.int x1), none, none, none, none, none, none]) (st := []) (c1 := 0) (s1 := 0) (g := (ab_G mi ml)) rfl ⟨trivial, trivial⟩ hc ?_
  obtain ⟨mi3, ml4, hc, h⟩ := h
  refine ab_wc 11 (c := 210) (as := [.ref 40, .int ((1 : Int32) <<< (x1 &&& 31))]) (pc := 22) (ll := [some (.ref 40), some (.int x1), some (.long (ml2 40 40)), none, some (.long (ml2 40 41)), none, none, none]) (st := []) (c1 := 0) (s1 := 0) (g := (ab_G mi1 ml2)) rfl ⟨trivial, trivial, trivial, trivial, trivial, trivial, trivial, trivial, trivial, trivial, trivial⟩ hc ?_
  obtain ⟨mi5, ml6, hc, h⟩ := h
  refine ab_wc 2 (c := 187) (as := [.ref 40]) (pc := 26) (ll := [some (.ref 40), some (.int x1), some (.long (ml2 40 40)), none, some (.long (ml2 40 41)), none, none, none]) (st := []) (c1 := 0) (s1 := 0) (g := (ab_G mi3 ml4)) rfl ⟨trivial, trivial⟩ hc ?_
  exact ab_wk 4 (f' := (32, [some (.ref 40), some (.int x1), some (.long (ml2 40 40)), none, some (.long (ml2 40 41)), none, some (.int 0), some (.int 0)], [], 0, 0, (ab_G mi5 ml6))) rfl ⟨trivial, trivial, trivial, trivial, trivial⟩ h
theorem vc_X12_reachOf_32 {call : Nat → List Value → ab_S → Option Value → ab_S → Prop} {ro : ab_E} {Q : Option Value → ab_S → Prop} (y1 : Int32) (y2 : Int64) (y4 : Int64) (y6 : Int32) (y7 : Int32) (mi : Nat → Nat → Int32) (ml : Nat → Nat → Int64)
    (h : ((y7 < 128) → (∃ (r9 : Int32) (mi7 : Nat → Nat → Int32) (ml8 : Nat → Nat → Int64), call 160 [.long (y2 ^^^ (ml 40 40)), .long (y4 ^^^ (ml 40 41)), .int y7] (ab_G mi ml) (some (.int r9)) (ab_G mi7 ml8) ∧ (((r9 = 0) → (ab_W call ro 0 0 (ab_lk2 pl_X12_reachOf) Q (32, [some (.ref 40), some (.int y1), some (.long y2), none, some (.long y4), none, some (.int (y6 + 0)), some (.int (y7 + 1))], [], 0, 0, (ab_G mi7 ml8)))) ∧ (¬ (r9 = 0) → (ab_W call ro 0 0 (ab_lk2 pl_X12_reachOf) Q (32, [some (.ref 40), some (.int y1), some (.long y2), none, some (.long y4), none, some (.int (y6 + 1)), some (.int (y7 + 1))], [], 0, 0, (ab_G mi7 ml8))))))) ∧ (¬ (y7 < 128) → (Q (some (.int y6)) (ab_G mi ml)))) :
    ab_W call ro 0 0 (ab_lk2 pl_X12_reachOf) Q (32, [some (.ref 40), some (.int y1), some (.long y2), none, some (.long y4), none, some (.int y6), some (.int y7)], [], 0, 0, ab_G mi ml) := by
  refine ab_wk 3 (f' := (if y7 < 128 then 40 else 77, [some (.ref 40), some (.int y1), some (.long y2), none, some (.long y4), none, some (.int y6), some (.int y7)], [], 0, 0, (ab_G mi ml))) rfl ⟨trivial, trivial, trivial, trivial⟩ ?_
  refine ab_wi (fun c => ?_) (fun c => ?_)
  · have h := h.1 c
    obtain ⟨r9, mi7, ml8, hc, h⟩ := h
    refine ab_wc 11 (c := 160) (as := [.long (y2 ^^^ (ml 40 40)), .long (y4 ^^^ (ml 40 41)), .int y7]) (pc := 60) (ll := [some (.ref 40), some (.int y1), some (.long y2), none, some (.long y4), none, some (.int y6), some (.int y7)]) (st := [.int y6]) (c1 := 0) (s1 := 0) (g := (ab_G mi ml)) rfl ⟨trivial, trivial, trivial, trivial, trivial, trivial, trivial, trivial, trivial, trivial, trivial⟩ hc ?_
    refine ab_wk 1 (f' := (if r9 = 0 then 67 else 63, [some (.ref 40), some (.int y1), some (.long y2), none, some (.long y4), none, some (.int y6), some (.int y7)], [.int y6], 0, 0, (ab_G mi7 ml8))) rfl ⟨trivial, trivial⟩ ?_
    refine ab_wi (fun c => ?_) (fun c => ?_)
    · have h := h.1 c
      exact ab_wk 5 (f' := (32, [some (.ref 40), some (.int y1), some (.long y2), none, some (.long y4), none, some (.int (y6 + 0)), some (.int (y7 + 1))], [], 0, 0, (ab_G mi7 ml8))) rfl ⟨trivial, trivial, trivial, trivial, trivial, trivial⟩ h
    · have h := h.2 c
      exact ab_wk 6 (f' := (32, [some (.ref 40), some (.int y1), some (.long y2), none, some (.long y4), none, some (.int (y6 + 1)), some (.int (y7 + 1))], [], 0, 0, (ab_G mi7 ml8))) rfl ⟨trivial, trivial, trivial, trivial, trivial, trivial, trivial⟩ h
  · have h := h.2 c
    exact ab_wr 2 rfl ⟨trivial, trivial⟩ h
theorem vc_X12_wishesOf_0 {call : Nat → List Value → ab_S → Option Value → ab_S → Prop} {ro : ab_E} {Q : Option Value → ab_S → Prop} (x1 : Int32) (mi : Nat → Nat → Int32) (ml : Nat → Nat → Int64)
    (h : ab_W call ro 0 0 (ab_lk2 pl_X12_wishesOf) Q (4, [some (.ref 40), some (.int x1), some (.int 0), some (.int 0)], [], 0, 0, (ab_G mi ml))) :
    ab_W call ro 0 0 (ab_lk2 pl_X12_wishesOf) Q (0, [some (.ref 40), some (.int x1), none, none], [], 0, 0, ab_G mi ml) := by
  exact ab_wk 4 (f' := (4, [some (.ref 40), some (.int x1), some (.int 0), some (.int 0)], [], 0, 0, (ab_G mi ml))) rfl ⟨trivial, trivial, trivial, trivial, trivial⟩ h
theorem vc_X12_wishesOf_4 {call : Nat → List Value → ab_S → Option Value → ab_S → Prop} {ro : ab_E} {Q : Option Value → ab_S → Prop} (y1 : Int32) (y2 : Int32) (y3 : Int32) (mi : Nat → Nat → Int32) (ml : Nat → Nat → Int64)
    (h : ((y3 < (mi 40 20)) → (vp_in y3 30 ∧ ((((mi 68 (y3).toNatClampNeg) = y1) → (ab_W call ro 0 0 (ab_lk2 pl_X12_wishesOf) Q (4, [some (.ref 40), some (.int y1), some (.int (y2 + 1)), some (.int (y3 + 1))], [], 0, 0, (ab_G mi ml)))) ∧ (¬ ((mi 68 (y3).toNatClampNeg) = y1) → (ab_W call ro 0 0 (ab_lk2 pl_X12_wishesOf) Q (4, [some (.ref 40), some (.int y1), some (.int (y2 + 0)), some (.int (y3 + 1))], [], 0, 0, (ab_G mi ml))))))) ∧ (¬ (y3 < (mi 40 20)) → (Q (some (.int y2)) (ab_G mi ml)))) :
    ab_W call ro 0 0 (ab_lk2 pl_X12_wishesOf) Q (4, [some (.ref 40), some (.int y1), some (.int y2), some (.int y3)], [], 0, 0, ab_G mi ml) := by
  refine ab_wk 4 (f' := (if y3 < (mi 40 20) then 12 else 36, [some (.ref 40), some (.int y1), some (.int y2), some (.int y3)], [], 0, 0, (ab_G mi ml))) rfl ⟨trivial, trivial, trivial, trivial, trivial⟩ ?_
  refine ab_wi (fun c => ?_) (fun c => ?_)
  · have h := h.1 c
    obtain ⟨p0, h⟩ := h
    refine ab_wk 7 (f' := (if (mi 68 (y3).toNatClampNeg) = y1 then 23 else 27, [some (.ref 40), some (.int y1), some (.int y2), some (.int y3)], [.int y2], 0, 0, (ab_G mi ml))) rfl ⟨trivial, trivial, trivial, trivial, p0, trivial, trivial, trivial⟩ ?_
    refine ab_wi (fun c => ?_) (fun c => ?_)
    · have h := h.1 c
      exact ab_wk 6 (f' := (4, [some (.ref 40), some (.int y1), some (.int (y2 + 1)), some (.int (y3 + 1))], [], 0, 0, (ab_G mi ml))) rfl ⟨trivial, trivial, trivial, trivial, trivial, trivial, trivial⟩ h
    · have h := h.2 c
      exact ab_wk 5 (f' := (4, [some (.ref 40), some (.int y1), some (.int (y2 + 0)), some (.int (y3 + 1))], [], 0, 0, (ab_G mi ml))) rfl ⟨trivial, trivial, trivial, trivial, trivial, trivial⟩ h
  · have h := h.2 c
    exact ab_wr 2 rfl ⟨trivial, trivial⟩ h
theorem vc_X12_group_0 {call : Nat → List Value → ab_S → Option Value → ab_S → Prop} {ro : ab_E} {Q : Option Value → ab_S → Prop} (x1 : Int32) (x2 : Int32) (mi : Nat → Nat → Int32) (ml : Nat → Nat → Int64)
    (h : ∃ (mi1 : Nat → Nat → Int32) (ml2 : Nat → Nat → Int64), call 198 [.ref 40] (ab_G (ab_ui mi 40 0 0) ml) none (ab_G mi1 ml2) ∧ (∃ (r5 : Int32) (mi3 : Nat → Nat → Int32) (ml4 : Nat → Nat → Int64), call 200 [.ref 40, .int x1] (ab_G mi1 ml2) (some (.int r5)) (ab_G mi3 ml4) ∧ (((r5 = 0) → (Q (some (.int (-1))) (ab_G mi3 ml4))) ∧ (¬ (r5 = 0) → (((x2 = 0) → (∃ (r8 : Int32) (mi6 : Nat → Nat → Int32) (ml7 : Nat → Nat → Int64), call 201 [.ref 40, .int x1] (ab_G mi3 ml4) (some (.int r8)) (ab_G mi6 ml7) ∧ (Q (some (.int r8)) (ab_G mi6 ml7)))) ∧ (¬ (x2 = 0) → (((x2 = 1) → (∃ (r11 : Int32) (mi9 : Nat → Nat → Int32) (ml10 : Nat → Nat → Int64), call 202 [.ref 40, .int x1] (ab_G mi3 ml4) (some (.int r11)) (ab_G mi9 ml10) ∧ (Q (some (.int r11)) (ab_G mi9 ml10)))) ∧ (¬ (x2 = 1) → (((x2 = 2) → (∃ (r14 : Int32) (mi12 : Nat → Nat → Int32) (ml13 : Nat → Nat → Int64), call 203 [.ref 40, .int x1] (ab_G mi3 ml4) (some (.int r14)) (ab_G mi12 ml13) ∧ (Q (some (.int r14)) (ab_G mi12 ml13)))) ∧ (¬ (x2 = 2) → (((x2 = 3) → (∃ (r17 : Int32) (mi15 : Nat → Nat → Int32) (ml16 : Nat → Nat → Int64), call 206 [.ref 40, .int x1] (ab_G mi3 ml4) (some (.int r17)) (ab_G mi15 ml16) ∧ (Q (some (.int r17)) (ab_G mi15 ml16)))) ∧ (¬ (x2 = 3) → (((x2 = 4) → (vp_in x1 30 ∧ (Q (some (.int (mi3 69 (x1).toNatClampNeg))) (ab_G mi3 ml4)))) ∧ (¬ (x2 = 4) → (((x2 = 5) → (∃ (r20 : Int32) (mi18 : Nat → Nat → Int32) (ml19 : Nat → Nat → Int64), call 204 [.ref 40, .int x1] (ab_G mi3 ml4) (some (.int r20)) (ab_G mi18 ml19) ∧ (Q (some (.int r20)) (ab_G mi18 ml19)))) ∧ (¬ (x2 = 5) → (Q (some (.int (-1))) (ab_G mi3 ml4)))))))))))))))))) :
    ab_W call ro 0 0 (ab_lk2 pl_X12_group) Q (0, [some (.ref 40), some (.int x1), some (.int x2)], [], 0, 0, ab_G mi ml) := by
  obtain ⟨mi1, ml2, hc, h⟩ := h
  refine ab_wc 5 (c := 198) (as := [.ref 40]) (pc := 9) (ll := [some (.ref 40), some (.int x1), some (.int x2)]) (st := []) (c1 := 0) (s1 := 0) (g := (ab_G (ab_ui mi 40 0 0) ml)) rfl ⟨trivial, trivial, trivial, trivial, trivial⟩ hc ?_
  obtain ⟨r5, mi3, ml4, hc, h⟩ := h
  refine ab_wc 3 (c := 200) (as := [.ref 40, .int x1]) (pc := 14) (ll := [some (.ref 40), some (.int x1), some (.int x2)]) (st := []) (c1 := 0) (s1 := 0) (g := (ab_G mi1 ml2)) rfl ⟨trivial, trivial, trivial⟩ hc ?_
  refine ab_wk 1 (f' := (if r5 = 0 then 17 else 19, [some (.ref 40), some (.int x1), some (.int x2)], [], 0, 0, (ab_G mi3 ml4))) rfl ⟨trivial, trivial⟩ ?_
  refine ab_wi (fun c => ?_) (fun c => ?_)
  · have h := h.1 c
    exact ab_wr 2 rfl ⟨trivial, trivial⟩ h
  · have h := h.2 c
    refine ab_wk 2 (f' := (ab_sw x2 [(0, 60), (1, 66), (2, 72), (3, 78), (4, 84), (5, 91)] 97, [some (.ref 40), some (.int x1), some (.int x2)], [], 0, 0, (ab_G mi3 ml4))) rfl ⟨trivial, trivial, trivial⟩ ?_
    refine ab_wi (fun c => ?_) (fun c => ?_)
    · have h := h.1 c
      obtain ⟨r8, mi6, ml7, hc, h⟩ := h
      refine ab_wc 3 (c := 201) (as := [.ref 40, .int x1]) (pc := 65) (ll := [some (.ref 40), some (.int x1), some (.int x2)]) (st := []) (c1 := 0) (s1 := 0) (g := (ab_G mi3 ml4)) rfl ⟨trivial, trivial, trivial⟩ hc ?_
      exact ab_wr 1 rfl trivial h
    · have h := h.2 c
      refine ab_wi (fun c => ?_) (fun c => ?_)
      · have h := h.1 c
        obtain ⟨r11, mi9, ml10, hc, h⟩ := h
        refine ab_wc 3 (c := 202) (as := [.ref 40, .int x1]) (pc := 71) (ll := [some (.ref 40), some (.int x1), some (.int x2)]) (st := []) (c1 := 0) (s1 := 0) (g := (ab_G mi3 ml4)) rfl ⟨trivial, trivial, trivial⟩ hc ?_
        exact ab_wr 1 rfl trivial h
      · have h := h.2 c
        refine ab_wi (fun c => ?_) (fun c => ?_)
        · have h := h.1 c
          obtain ⟨r14, mi12, ml13, hc, h⟩ := h
          refine ab_wc 3 (c := 203) (as := [.ref 40, .int x1]) (pc := 77) (ll := [some (.ref 40), some (.int x1), some (.int x2)]) (st := []) (c1 := 0) (s1 := 0) (g := (ab_G mi3 ml4)) rfl ⟨trivial, trivial, trivial⟩ hc ?_
          exact ab_wr 1 rfl trivial h
        · have h := h.2 c
          refine ab_wi (fun c => ?_) (fun c => ?_)
          · have h := h.1 c
            obtain ⟨r17, mi15, ml16, hc, h⟩ := h
            refine ab_wc 3 (c := 206) (as := [.ref 40, .int x1]) (pc := 83) (ll := [some (.ref 40), some (.int x1), some (.int x2)]) (st := []) (c1 := 0) (s1 := 0) (g := (ab_G mi3 ml4)) rfl ⟨trivial, trivial, trivial⟩ hc ?_
            exact ab_wr 1 rfl trivial h
          · have h := h.2 c
            refine ab_wi (fun c => ?_) (fun c => ?_)
            · have h := h.1 c
              obtain ⟨p0, h⟩ := h
              exact ab_wr 5 rfl ⟨trivial, trivial, trivial, p0, trivial⟩ h
            · have h := h.2 c
              refine ab_wi (fun c => ?_) (fun c => ?_)
              · have h := h.1 c
                obtain ⟨r20, mi18, ml19, hc, h⟩ := h
                refine ab_wc 3 (c := 204) (as := [.ref 40, .int x1]) (pc := 96) (ll := [some (.ref 40), some (.int x1), some (.int x2)]) (st := []) (c1 := 0) (s1 := 0) (g := (ab_G mi3 ml4)) rfl ⟨trivial, trivial, trivial⟩ hc ?_
                exact ab_wr 1 rfl trivial h
              · have h := h.2 c
                exact ab_wr 2 rfl ⟨trivial, trivial⟩ h
theorem vc_X12_groundsOf_0 {call : Nat → List Value → ab_S → Option Value → ab_S → Prop} {ro : ab_E} {Q : Option Value → ab_S → Prop} (x1 : Int32) (mi : Nat → Nat → Int32) (ml : Nat → Nat → Int64)
    (h : ab_W call ro 0 0 (ab_lk2 pl_X12_groundsOf) Q (4, [some (.ref 40), some (.int x1), some (.int 0), some (.int 0)], [], 0, 0, (ab_G mi ml))) :
    ab_W call ro 0 0 (ab_lk2 pl_X12_groundsOf) Q (0, [some (.ref 40), some (.int x1), none, none], [], 0, 0, ab_G mi ml) := by
  exact ab_wk 4 (f' := (4, [some (.ref 40), some (.int x1), some (.int 0), some (.int 0)], [], 0, 0, (ab_G mi ml))) rfl ⟨trivial, trivial, trivial, trivial, trivial⟩ h
theorem vc_X12_groundsOf_4 {call : Nat → List Value → ab_S → Option Value → ab_S → Prop} {ro : ab_E} {Q : Option Value → ab_S → Prop} (y1 : Int32) (y2 : Int32) (y3 : Int32) (mi : Nat → Nat → Int32) (ml : Nat → Nat → Int64)
    (h : ((y3 < (mi 40 30)) → (vp_in y3 20 ∧ (vp_in (mi 61 (y3).toNatClampNeg) 30 ∧ ((((mi 68 ((mi 61 (y3).toNatClampNeg)).toNatClampNeg) = y1) → (∃ (r3 : Int32) (mi1 : Nat → Nat → Int32) (ml2 : Nat → Nat → Int64), call 174 [.ref 40, .int y3] (ab_G mi ml) (some (.int r3)) (ab_G mi1 ml2) ∧ (((r3 = 0) → (ab_W call ro 0 0 (ab_lk2 pl_X12_groundsOf) Q (4, [some (.ref 40), some (.int y1), some (.int (y2 + 0)), some (.int (y3 + 1))], [], 0, 0, (ab_G mi1 ml2)))) ∧ (¬ (r3 = 0) → (ab_W call ro 0 0 (ab_lk2 pl_X12_groundsOf) Q (4, [some (.ref 40), some (.int y1), some (.int (y2 + 1)), some (.int (y3 + 1))], [], 0, 0, (ab_G mi1 ml2))))))) ∧ (¬ ((mi 68 ((mi 61 (y3).toNatClampNeg)).toNatClampNeg) = y1) → (ab_W call ro 0 0 (ab_lk2 pl_X12_groundsOf) Q (4, [some (.ref 40), some (.int y1), some (.int (y2 + 0)), some (.int (y3 + 1))], [], 0, 0, (ab_G mi ml)))))))) ∧ (¬ (y3 < (mi 40 30)) → (Q (some (.int y2)) (ab_G mi ml)))) :
    ab_W call ro 0 0 (ab_lk2 pl_X12_groundsOf) Q (4, [some (.ref 40), some (.int y1), some (.int y2), some (.int y3)], [], 0, 0, ab_G mi ml) := by
  refine ab_wk 4 (f' := (if y3 < (mi 40 30) then 12 else 49, [some (.ref 40), some (.int y1), some (.int y2), some (.int y3)], [], 0, 0, (ab_G mi ml))) rfl ⟨trivial, trivial, trivial, trivial, trivial⟩ ?_
  refine ab_wi (fun c => ?_) (fun c => ?_)
  · have h := h.1 c
    obtain ⟨p0, p1, h⟩ := h
    refine ab_wk 10 (f' := (if (mi 68 ((mi 61 (y3).toNatClampNeg)).toNatClampNeg) = y1 then 28 else 40, [some (.ref 40), some (.int y1), some (.int y2), some (.int y3)], [.int y2], 0, 0, (ab_G mi ml))) rfl ⟨trivial, trivial, trivial, trivial, trivial, trivial, p0, p1, trivial, trivial, trivial⟩ ?_
    refine ab_wi (fun c => ?_) (fun c => ?_)
    · have h := h.1 c
      obtain ⟨r3, mi1, ml2, hc, h⟩ := h
      refine ab_wc 3 (c := 174) (as := [.ref 40, .int y3]) (pc := 33) (ll := [some (.ref 40), some (.int y1), some (.int y2), some (.int y3)]) (st := [.int y2]) (c1 := 0) (s1 := 0) (g := (ab_G mi ml)) rfl ⟨trivial, trivial, trivial⟩ hc ?_
      refine ab_wk 1 (f' := (if r3 = 0 then 40 else 36, [some (.ref 40), some (.int y1), some (.int y2), some (.int y3)], [.int y2], 0, 0, (ab_G mi1 ml2))) rfl ⟨trivial, trivial⟩ ?_
      refine ab_wi (fun c => ?_) (fun c => ?_)
      · have h := h.1 c
        exact ab_wk 5 (f' := (4, [some (.ref 40), some (.int y1), some (.int (y2 + 0)), some (.int (y3 + 1))], [], 0, 0, (ab_G mi1 ml2))) rfl ⟨trivial, trivial, trivial, trivial, trivial, trivial⟩ h
      · have h := h.2 c
        exact ab_wk 6 (f' := (4, [some (.ref 40), some (.int y1), some (.int (y2 + 1)), some (.int (y3 + 1))], [], 0, 0, (ab_G mi1 ml2))) rfl ⟨trivial, trivial, trivial, trivial, trivial, trivial, trivial⟩ h
    · have h := h.2 c
      exact ab_wk 5 (f' := (4, [some (.ref 40), some (.int y1), some (.int (y2 + 0)), some (.int (y3 + 1))], [], 0, 0, (ab_G mi ml))) rfl ⟨trivial, trivial, trivial, trivial, trivial, trivial⟩ h
  · have h := h.2 c
    exact ab_wr 2 rfl ⟨trivial, trivial⟩ h
theorem vc_X12_meansSame_0 {call : Nat → List Value → ab_S → Option Value → ab_S → Prop} {ro : ab_E} {Q : Option Value → ab_S → Prop} (x1 : Int32) (x2 : Int64) (x4 : Int64) (mi : Nat → Nat → Int32) (ml : Nat → Nat → Int64)
    (h : ab_W call ro 0 0 (ab_lk2 pl_X12_meansSame) Q (13, [some (.ref 40), some (.int x1), some (.long x2), none, some (.long x4), none, some (.long (-1)), none, some (.long (-1)), none, some (.int 0), none, none], [], 0, 0, (ab_G mi ml))) :
    ab_W call ro 0 0 (ab_lk2 pl_X12_meansSame) Q (0, [some (.ref 40), some (.int x1), some (.long x2), none, some (.long x4), none, none, none, none, none, none, none, none], [], 0, 0, ab_G mi ml) := by
  exact ab_wk 6 (f' := (13, [some (.ref 40), some (.int x1), some (.long x2), none, some (.long x4), none, some (.long (-1)), none, some (.long (-1)), none, some (.int 0), none, none], [], 0, 0, (ab_G mi ml))) rfl ⟨trivial, trivial, trivial, trivial, trivial, trivial, trivial⟩ h
theorem vc_X12_meansSame_13 {call : Nat → List Value → ab_S → Option Value → ab_S → Prop} {ro : ab_E} {Q : Option Value → ab_S → Prop} (y1 : Int32) (y2 : Int64) (y4 : Int64) (y6 : Int64) (y8 : Int64) (y10 : Int32) (mi : Nat → Nat → Int32) (ml : Nat → Nat → Int64)
    (h : ((y10 < (mi 40 12)) → (((((y1 >>> (y10 &&& 31)) &&& 1) = 1) → (vp_in y10 12 ∧ ((((mi 46 (y10).toNatClampNeg) = 0) → (ab_W call ro 0 0 (ab_lk2 pl_X12_meansSame) Q (13, [some (.ref 40), some (.int y1), some (.long y2), none, some (.long y4), none, some (.long y6), none, some (.long y8), none, some (.int (y10 + 1)), none, none], [], 0, 0, (ab_G mi ml)))) ∧ (¬ ((mi 46 (y10).toNatClampNeg) = 0) → (vp_in y10 12 ∧ (vp_in y10 12 ∧ (ab_W call ro 0 0 (ab_lk2 pl_X12_meansSame) Q (13, [some (.ref 40), some (.int y1), some (.long y2), none, some (.long y4), none, some (.long (y6 &&& (ml 47 (y10).toNatClampNeg))), none, some (.long (y8 &&& (ml 48 (y10).toNatClampNeg))), none, some (.int (y10 + 1)), none, none], [], 0, 0, (ab_G mi ml))))))))) ∧ (¬ (((y1 >>> (y10 &&& 31)) &&& 1) = 1) → (ab_W call ro 0 0 (ab_lk2 pl_X12_meansSame) Q (13, [some (.ref 40), some (.int y1), some (.long y2), none, some (.long y4), none, some (.long y6), none, some (.long y8), none, some (.int (y10 + 1)), none, none], [], 0, 0, (ab_G mi ml)))))) ∧ (¬ (y10 < (mi 40 12)) → ((((lg_cmp y6 y2) = 0) → ((((lg_cmp y8 y4) = 0) → (ab_W call ro 0 0 (ab_lk2 pl_X12_meansSame) Q (92, [some (.ref 40), some (.int y1), some (.long y2), none, some (.long y4), none, some (.long y6), none, some (.long y8), none, some (.int 0), none, none], [], 0, 0, (ab_G mi ml)))) ∧ (¬ ((lg_cmp y8 y4) = 0) → (Q (some (.int 0)) (ab_G mi ml))))) ∧ (¬ ((lg_cmp y6 y2) = 0) → (Q (some (.int 0)) (ab_G mi ml)))))) :
    ab_W call ro 0 0 (ab_lk2 pl_X12_meansSame) Q (13, [some (.ref 40), some (.int y1), some (.long y2), none, some (.long y4), none, some (.long y6), none, some (.long y8), none, some (.int y10), none, none], [], 0, 0, ab_G mi ml) := by
  refine ab_wk 4 (f' := (if y10 < (mi 40 12) then 22 else 72, [some (.ref 40), some (.int y1), some (.long y2), none, some (.long y4), none, some (.long y6), none, some (.long y8), none, some (.int y10), none, none], [], 0, 0, (ab_G mi ml))) rfl ⟨trivial, trivial, trivial, trivial, trivial⟩ ?_
  refine ab_wi (fun c => ?_) (fun c => ?_)
  · have h := h.1 c
    refine ab_wk 7 (f' := (if ((y1 >>> (y10 &&& 31)) &&& 1) = 1 then 32 else 66, [some (.ref 40), some (.int y1), some (.long y2), none, some (.long y4), none, some (.long y6), none, some (.long y8), none, some (.int y10), none, none], [], 0, 0, (ab_G mi ml))) rfl ⟨trivial, trivial, trivial, trivial, trivial, trivial, trivial, trivial⟩ ?_
    refine ab_wi (fun c => ?_) (fun c => ?_)
    · have h := h.1 c
      obtain ⟨p0, h⟩ := h
      refine ab_wk 5 (f' := (if (mi 46 (y10).toNatClampNeg) = 0 then 66 else 42, [some (.ref 40), some (.int y1), some (.long y2), none, some (.long y4), none, some (.long y6), none, some (.long y8), none, some (.int y10), none, none], [], 0, 0, (ab_G mi ml))) rfl ⟨trivial, trivial, trivial, p0, trivial, trivial⟩ ?_
      refine ab_wi (fun c => ?_) (fun c => ?_)
      · have h := h.1 c
        exact ab_wk 2 (f' := (13, [some (.ref 40), some (.int y1), some (.long y2), none, some (.long y4), none, some (.long y6), none, some (.long y8), none, some (.int (y10 + 1)), none, none], [], 0, 0, (ab_G mi ml))) rfl ⟨trivial, trivial, trivial⟩ h
      · have h := h.2 c
        obtain ⟨p0, p1, h⟩ := h
        exact ab_wk 16 (f' := (13, [some (.ref 40), some (.int y1), some (.long y2), none, some (.long y4), none, some (.long (y6 &&& (ml 47 (y10).toNatClampNeg))), none, some (.long (y8 &&& (ml 48 (y10).toNatClampNeg))), none, some (.int (y10 + 1)), none, none], [], 0, 0, (ab_G mi ml))) rfl ⟨trivial, trivial, trivial, trivial, p0, trivial, trivial, trivial, trivial, trivial, trivial, p1, trivial, trivial, trivial, trivial, trivial⟩ h
    · have h := h.2 c
      exact ab_wk 2 (f' := (13, [some (.ref 40), some (.int y1), some (.long y2), none, some (.long y4), none, some (.long y6), none, some (.long y8), none, some (.int (y10 + 1)), none, none], [], 0, 0, (ab_G mi ml))) rfl ⟨trivial, trivial, trivial⟩ h
  · have h := h.2 c
    refine ab_wk 4 (f' := (if (lg_cmp y6 y2) = 0 then 79 else 87, [some (.ref 40), some (.int y1), some (.long y2), none, some (.long y4), none, some (.long y6), none, some (.long y8), none, some (.int y10), none, none], [], 0, 0, (ab_G mi ml))) rfl ⟨trivial, trivial, trivial, trivial, trivial⟩ ?_
    refine ab_wi (fun c => ?_) (fun c => ?_)
    · have h := h.1 c
      refine ab_wk 4 (f' := (if (lg_cmp y8 y4) = 0 then 89 else 87, [some (.ref 40), some (.int y1), some (.long y2), none, some (.long y4), none, some (.long y6), none, some (.long y8), none, some (.int y10), none, none], [], 0, 0, (ab_G mi ml))) rfl ⟨trivial, trivial, trivial, trivial, trivial⟩ ?_
      refine ab_wi (fun c => ?_) (fun c => ?_)
      · have h := h.1 c
        exact ab_wk 2 (f' := (92, [some (.ref 40), some (.int y1), some (.long y2), none, some (.long y4), none, some (.long y6), none, some (.long y8), none, some (.int 0), none, none], [], 0, 0, (ab_G mi ml))) rfl ⟨trivial, trivial, trivial⟩ h
      · have h := h.2 c
        exact ab_wr 2 rfl ⟨trivial, (Or.inl rfl)⟩ h
    · have h := h.2 c
      exact ab_wr 2 rfl ⟨trivial, (Or.inl rfl)⟩ h
theorem vc_X12_meansSame_92 {call : Nat → List Value → ab_S → Option Value → ab_S → Prop} {ro : ab_E} {Q : Option Value → ab_S → Prop} (y1 : Int32) (y2 : Int64) (y4 : Int64) (y6 : Int64) (y8 : Int64) (y10 : Int32) (mi : Nat → Nat → Int32) (ml : Nat → Nat → Int64)
    (h : ((y10 < (mi 40 12)) → (vp_in y10 12 ∧ (ab_W call ro 0 0 (ab_lk2 pl_X12_meansSame) Q (113, [some (.ref 40), some (.int y1), some (.long y2), none, some (.long y4), none, some (.long y6), none, some (.long y8), none, some (.int y10), some (.int (mi 46 (y10).toNatClampNeg)), some (.int 0)], [], 0, 0, (ab_G mi ml))))) ∧ (¬ (y10 < (mi 40 12)) → (Q (some (.int 1)) (ab_G mi ml)))) :
    ab_W call ro 0 0 (ab_lk2 pl_X12_meansSame) Q (92, [some (.ref 40), some (.int y1), some (.long y2), none, some (.long y4), none, some (.long y6), none, some (.long y8), none, some (.int y10), none, none], [], 0, 0, ab_G mi ml) := by
  refine ab_wk 4 (f' := (if y10 < (mi 40 12) then 101 else 209, [some (.ref 40), some (.int y1), some (.long y2), none, some (.long y4), none, some (.long y6), none, some (.long y8), none, some (.int y10), none, none], [], 0, 0, (ab_G mi ml))) rfl ⟨trivial, trivial, trivial, trivial, trivial⟩ ?_
  refine ab_wi (fun c => ?_) (fun c => ?_)
  · have h := h.1 c
    obtain ⟨p0, h⟩ := h
    exact ab_wk 7 (f' := (113, [some (.ref 40), some (.int y1), some (.long y2), none, some (.long y4), none, some (.long y6), none, some (.long y8), none, some (.int y10), some (.int (mi 46 (y10).toNatClampNeg)), some (.int 0)], [], 0, 0, (ab_G mi ml))) rfl ⟨trivial, trivial, trivial, p0, trivial, trivial, trivial, trivial⟩ h
  · have h := h.2 c
    exact ab_wr 2 rfl ⟨trivial, (Or.inr rfl)⟩ h
theorem vc_X12_meansSame_113 {call : Nat → List Value → ab_S → Option Value → ab_S → Prop} {ro : ab_E} {Q : Option Value → ab_S → Prop} (y1 : Int32) (y2 : Int64) (y4 : Int64) (y6 : Int64) (y8 : Int64) (y10 : Int32) (y11 : Int32) (y12 : Int32) (mi : Nat → Nat → Int32) (ml : Nat → Nat → Int64)
    (h : ((y12 < (mi 40 12)) → (((y11 = 0) → (((((y1 >>> (y12 &&& 31)) &&& 1) = 1) → (vp_in y12 12 ∧ ((((mi 46 (y12).toNatClampNeg) = 0) → (vp_in y12 12 ∧ (vp_in y10 12 ∧ ((((lg_cmp (ml 47 (y12).toNatClampNeg) (ml 47 (y10).toNatClampNeg)) = 0) → (vp_in y12 12 ∧ (vp_in y10 12 ∧ ((((lg_cmp (ml 48 (y12).toNatClampNeg) (ml 48 (y10).toNatClampNeg)) = 0) → (ab_W call ro 0 0 (ab_lk2 pl_X12_meansSame) Q (113, [some (.ref 40), some (.int y1), some (.long y2), none, some (.long y4), none, some (.long y6), none, some (.long y8), none, some (.int y10), some (.int 1), some (.int (y12 + 1))], [], 0, 0, (ab_G mi ml)))) ∧ (¬ ((lg_cmp (ml 48 (y12).toNatClampNeg) (ml 48 (y10).toNatClampNeg)) = 0) → (ab_W call ro 0 0 (ab_lk2 pl_X12_meansSame) Q (113, [some (.ref 40), some (.int y1), some (.long y2), none, some (.long y4), none, some (.long y6), none, some (.long y8), none, some (.int y10), some (.int 0), some (.int (y12 + 1))], [], 0, 0, (ab_G mi ml)))))))) ∧ (¬ ((lg_cmp (ml 47 (y12).toNatClampNeg) (ml 47 (y10).toNatClampNeg)) = 0) → (ab_W call ro 0 0 (ab_lk2 pl_X12_meansSame) Q (113, [some (.ref 40), some (.int y1), some (.long y2), none, some (.long y4), none, some (.long y6), none, some (.long y8), none, some (.int y10), some (.int 0), some (.int (y12 + 1))], [], 0, 0, (ab_G mi ml)))))))) ∧ (¬ ((mi 46 (y12).toNatClampNeg) = 0) → (ab_W call ro 0 0 (ab_lk2 pl_X12_meansSame) Q (113, [some (.ref 40), some (.int y1), some (.long y2), none, some (.long y4), none, some (.long y6), none, some (.long y8), none, some (.int y10), some (.int 0), some (.int (y12 + 1))], [], 0, 0, (ab_G mi ml))))))) ∧ (¬ (((y1 >>> (y12 &&& 31)) &&& 1) = 1) → (ab_W call ro 0 0 (ab_lk2 pl_X12_meansSame) Q (113, [some (.ref 40), some (.int y1), some (.long y2), none, some (.long y4), none, some (.long y6), none, some (.long y8), none, some (.int y10), some (.int 0), some (.int (y12 + 1))], [], 0, 0, (ab_G mi ml)))))) ∧ (¬ (y11 = 0) → (ab_W call ro 0 0 (ab_lk2 pl_X12_meansSame) Q (113, [some (.ref 40), some (.int y1), some (.long y2), none, some (.long y4), none, some (.long y6), none, some (.long y8), none, some (.int y10), some (.int 1), some (.int (y12 + 1))], [], 0, 0, (ab_G mi ml)))))) ∧ (¬ (y12 < (mi 40 12)) → (((y11 = 0) → (Q (some (.int 0)) (ab_G mi ml))) ∧ (¬ (y11 = 0) → (ab_W call ro 0 0 (ab_lk2 pl_X12_meansSame) Q (92, [some (.ref 40), some (.int y1), some (.long y2), none, some (.long y4), none, some (.long y6), none, some (.long y8), none, some (.int (y10 + 1)), none, none], [], 0, 0, (ab_G mi ml))))))) :
    ab_W call ro 0 0 (ab_lk2 pl_X12_meansSame) Q (113, [some (.ref 40), some (.int y1), some (.long y2), none, some (.long y4), none, some (.long y6), none, some (.long y8), none, some (.int y10), some (.int y11), some (.int y12)], [], 0, 0, ab_G mi ml) := by
  refine ab_wk 4 (f' := (if y12 < (mi 40 12) then 122 else 196, [some (.ref 40), some (.int y1), some (.long y2), none, some (.long y4), none, some (.long y6), none, some (.long y8), none, some (.int y10), some (.int y11), some (.int y12)], [], 0, 0, (ab_G mi ml))) rfl ⟨trivial, trivial, trivial, trivial, trivial⟩ ?_
  refine ab_wi (fun c => ?_) (fun c => ?_)
  · have h := h.1 c
    refine ab_wk 2 (f' := (if y11 = 0 then 127 else 183, [some (.ref 40), some (.int y1), some (.long y2), none, some (.long y4), none, some (.long y6), none, some (.long y8), none, some (.int y10), some (.int y11), some (.int y12)], [], 0, 0, (ab_G mi ml))) rfl ⟨trivial, trivial, trivial⟩ ?_
    refine ab_wi (fun c => ?_) (fun c => ?_)
    · have h := h.1 c
      refine ab_wk 7 (f' := (if ((y1 >>> (y12 &&& 31)) &&& 1) = 1 then 137 else 187, [some (.ref 40), some (.int y1), some (.long y2), none, some (.long y4), none, some (.long y6), none, some (.long y8), none, some (.int y10), some (.int y11), some (.int y12)], [], 0, 0, (ab_G mi ml))) rfl ⟨trivial, trivial, trivial, trivial, trivial, trivial, trivial, trivial⟩ ?_
      refine ab_wi (fun c => ?_) (fun c => ?_)
      · have h := h.1 c
        obtain ⟨p0, h⟩ := h
        refine ab_wk 5 (f' := (if (mi 46 (y12).toNatClampNeg) = 0 then 147 else 187, [some (.ref 40), some (.int y1), some (.long y2), none, some (.long y4), none, some (.long y6), none, some (.long y8), none, some (.int y10), some (.int y11), some (.int y12)], [], 0, 0, (ab_G mi ml))) rfl ⟨trivial, trivial, trivial, p0, trivial, trivial⟩ ?_
        refine ab_wi (fun c => ?_) (fun c => ?_)
        · have h := h.1 c
          obtain ⟨p0, p1, h⟩ := h
          refine ab_wk 10 (f' := (if (lg_cmp (ml 47 (y12).toNatClampNeg) (ml 47 (y10).toNatClampNeg)) = 0 then 165 else 187, [some (.ref 40), some (.int y1), some (.long y2), none, some (.long y4), none, some (.long y6), none, some (.long y8), none, some (.int y10), some (.int y11), some (.int y12)], [], 0, 0, (ab_G mi ml))) rfl ⟨trivial, trivial, trivial, p0, trivial, trivial, trivial, p1, trivial, trivial, trivial⟩ ?_
          refine ab_wi (fun c => ?_) (fun c => ?_)
          · have h := h.1 c
            obtain ⟨p0, p1, h⟩ := h
            refine ab_wk 10 (f' := (if (lg_cmp (ml 48 (y12).toNatClampNeg) (ml 48 (y10).toNatClampNeg)) = 0 then 183 else 187, [some (.ref 40), some (.int y1), some (.long y2), none, some (.long y4), none, some (.long y6), none, some (.long y8), none, some (.int y10), some (.int y11), some (.int y12)], [], 0, 0, (ab_G mi ml))) rfl ⟨trivial, trivial, trivial, p0, trivial, trivial, trivial, p1, trivial, trivial, trivial⟩ ?_
            refine ab_wi (fun c => ?_) (fun c => ?_)
            · have h := h.1 c
              exact ab_wk 5 (f' := (113, [some (.ref 40), some (.int y1), some (.long y2), none, some (.long y4), none, some (.long y6), none, some (.long y8), none, some (.int y10), some (.int 1), some (.int (y12 + 1))], [], 0, 0, (ab_G mi ml))) rfl ⟨trivial, trivial, trivial, trivial, trivial, trivial⟩ h
            · have h := h.2 c
              exact ab_wk 4 (f' := (113, [some (.ref 40), some (.int y1), some (.long y2), none, some (.long y4), none, some (.long y6), none, some (.long y8), none, some (.int y10), some (.int 0), some (.int (y12 + 1))], [], 0, 0, (ab_G mi ml))) rfl ⟨trivial, trivial, trivial, trivial, trivial⟩ h
          · have h := h.2 c
            exact ab_wk 4 (f' := (113, [some (.ref 40), some (.int y1), some (.long y2), none, some (.long y4), none, some (.long y6), none, some (.long y8), none, some (.int y10), some (.int 0), some (.int (y12 + 1))], [], 0, 0, (ab_G mi ml))) rfl ⟨trivial, trivial, trivial, trivial, trivial⟩ h
        · have h := h.2 c
          exact ab_wk 4 (f' := (113, [some (.ref 40), some (.int y1), some (.long y2), none, some (.long y4), none, some (.long y6), none, some (.long y8), none, some (.int y10), some (.int 0), some (.int (y12 + 1))], [], 0, 0, (ab_G mi ml))) rfl ⟨trivial, trivial, trivial, trivial, trivial⟩ h
      · have h := h.2 c
        exact ab_wk 4 (f' := (113, [some (.ref 40), some (.int y1), some (.long y2), none, some (.long y4), none, some (.long y6), none, some (.long y8), none, some (.int y10), some (.int 0), some (.int (y12 + 1))], [], 0, 0, (ab_G mi ml))) rfl ⟨trivial, trivial, trivial, trivial, trivial⟩ h
    · have h := h.2 c
      exact ab_wk 5 (f' := (113, [some (.ref 40), some (.int y1), some (.long y2), none, some (.long y4), none, some (.long y6), none, some (.long y8), none, some (.int y10), some (.int 1), some (.int (y12 + 1))], [], 0, 0, (ab_G mi ml))) rfl ⟨trivial, trivial, trivial, trivial, trivial, trivial⟩ h
  · have h := h.2 c
    refine ab_wk 2 (f' := (if y11 = 0 then 201 else 203, [some (.ref 40), some (.int y1), some (.long y2), none, some (.long y4), none, some (.long y6), none, some (.long y8), none, some (.int y10), some (.int y11), some (.int y12)], [], 0, 0, (ab_G mi ml))) rfl ⟨trivial, trivial, trivial⟩ ?_
    refine ab_wi (fun c => ?_) (fun c => ?_)
    · have h := h.1 c
      exact ab_wr 2 rfl ⟨trivial, (Or.inl rfl)⟩ h
    · have h := h.2 c
      exact ab_wk 2 (f' := (92, [some (.ref 40), some (.int y1), some (.long y2), none, some (.long y4), none, some (.long y6), none, some (.long y8), none, some (.int (y10 + 1)), some (.int y11), some (.int y12)], [], 0, 0, (ab_G mi ml))) rfl ⟨trivial, trivial, trivial⟩ (ab_drop h (ab_lrc _ (ab_lrc _ (ab_lrc _ (ab_lrc _ (ab_lrc _ (ab_lrc _ (ab_lrc _ (ab_lrc _ (ab_lrc _ (ab_lrc _ (ab_lrc _ (ab_lrn _ (ab_lrn _ ab_lr0))))))))))))))
theorem vc_X12_idle_0 {call : Nat → List Value → ab_S → Option Value → ab_S → Prop} {ro : ab_E} {Q : Option Value → ab_S → Prop} (x1 : Int32) (mi : Nat → Nat → Int32) (ml : Nat → Nat → Int64)
    (h : ((x1 < 0) → (Q (some (.int (-1))) (ab_G (ab_ui mi 40 0 0) ml))) ∧ (¬ (x1 < 0) → (((x1 < (mi 40 12)) → (∃ (mi1 : Nat → Nat → Int32) (ml2 : Nat → Nat → Int64), call 190 [.ref 40] (ab_G (ab_ui mi 40 0 0) ml) none (ab_G mi1 ml2) ∧ (∃ (r5 : Int32) (mi3 : Nat → Nat → Int32) (ml4 : Nat → Nat → Int64), call 207 [.ref 40, .int ((((1 : Int32) <<< ((mi1 40 12) &&& 31)) - 1) &&& (((1 : Int32) <<< (x1 &&& 31)) ^^^ (-1))), .long (ml2 40 40), .long (ml2 40 41)] (ab_G mi1 ml2) (some (.int r5)) (ab_G mi3 ml4) ∧ (((r5 = 0) → (Q (some (.int 0)) (ab_G mi3 ml4))) ∧ (¬ (r5 = 0) → (Q (some (.int 1)) (ab_G mi3 ml4))))))) ∧ (¬ (x1 < (mi 40 12)) → (Q (some (.int (-1))) (ab_G (ab_ui mi 40 0 0) ml)))))) :
    ab_W call ro 0 0 (ab_lk2 pl_X12_idle) Q (0, [some (.ref 40), some (.int x1)], [], 0, 0, ab_G mi ml) := by
  refine ab_wk 5 (f' := (if x1 < 0 then 17 else 9, [some (.ref 40), some (.int x1)], [], 0, 0, (ab_G (ab_ui mi 40 0 0) ml))) rfl ⟨trivial, trivial, trivial, trivial, trivial, trivial⟩ ?_
  refine ab_wi (fun c => ?_) (fun c => ?_)
  · have h := h.1 c
    exact ab_wr 2 rfl ⟨trivial, trivial⟩ h
  · have h := h.2 c
    refine ab_wk 4 (f' := (if x1 < (mi 40 12) then 19 else 17, [some (.ref 40), some (.int x1)], [], 0, 0, (ab_G (ab_ui mi 40 0 0) ml))) rfl ⟨trivial, trivial, trivial, trivial, trivial⟩ ?_
    refine ab_wi (fun c => ?_) (fun c => ?_)
    · have h := h.1 c
      obtain ⟨mi1, ml2, hc, h⟩ := h
      refine ab_wc 2 (c := 190) (as := [.ref 40]) (pc := 23) (ll := [some (.ref 40), some (.int x1)]) (st := []) (c1 := 0) (s1 := 0) (g := (ab_G (ab_ui mi 40 0 0) ml)) rfl ⟨trivial, trivial⟩ hc ?_
      obtain ⟨r5, mi3, ml4, hc, h⟩ := h
      refine ab_wc 18 (c := 207) (as := [.ref 40, .int ((((1 : Int32) <<< ((mi1 40 12) &&& 31)) - 1) &&& (((1 : Int32) <<< (x1 &&& 31)) ^^^ (-1))), .long (ml2 40 40), .long (ml2 40 41)]) (pc := 49) (ll := [some (.ref 40), some (.int x1)]) (st := []) (c1 := 0) (s1 := 0) (g := (ab_G mi1 ml2)) rfl ⟨trivial, trivial, trivial, trivial, trivial, trivial, trivial, trivial, trivial, trivial, trivial, trivial, trivial, trivial, trivial, trivial, trivial, trivial⟩ hc ?_
      refine ab_wk 1 (f' := (if r5 = 0 then 56 else 52, [some (.ref 40), some (.int x1)], [], 0, 0, (ab_G mi3 ml4))) rfl ⟨trivial, trivial⟩ ?_
      refine ab_wi (fun c => ?_) (fun c => ?_)
      · have h := h.1 c
        exact ab_wr 2 rfl ⟨trivial, trivial⟩ h
      · have h := h.2 c
        exact ab_wr 3 rfl ⟨trivial, trivial, trivial⟩ h
    · have h := h.2 c
      exact ab_wr 2 rfl ⟨trivial, trivial⟩ h
theorem vc_X12_fewest_0 {call : Nat → List Value → ab_S → Option Value → ab_S → Prop} {ro : ab_E} {Q : Option Value → ab_S → Prop} (x1 : Int32) (mi : Nat → Nat → Int32) (ml : Nat → Nat → Int64)
    (h : ∃ (r3 : Int32) (mi1 : Nat → Nat → Int32) (ml2 : Nat → Nat → Int64), call 178 [.int x1, .int 0, .int 1] (ab_G (ab_ui mi 40 0 0) ml) (some (.int r3)) (ab_G mi1 ml2) ∧ (((r3 = 0) → (Q (some (.int (-1))) (ab_G mi1 ml2))) ∧ (¬ (r3 = 0) → (∃ (mi4 : Nat → Nat → Int32) (ml5 : Nat → Nat → Int64), call 190 [.ref 40] (ab_G mi1 ml2) none (ab_G mi4 ml5) ∧ (ab_W call ro 0 0 (ab_lk2 pl_X12_fewest) Q (31, [some (.ref 40), some (.int x1), some (.int (((1 : Int32) <<< ((mi4 40 12) &&& 31)) - 1)), some (.int 0)], [], 0, 0, (ab_G mi4 ml5))))))) :
    ab_W call ro 0 0 (ab_lk2 pl_X12_fewest) Q (0, [some (.ref 40), some (.int x1), none, none], [], 0, 0, ab_G mi ml) := by
  obtain ⟨r3, mi1, ml2, hc, h⟩ := h
  refine ab_wc 7 (c := 178) (as := [.int x1, .int 0, .int 1]) (pc := 11) (ll := [some (.ref 40), some (.int x1), none, none]) (st := []) (c1 := 0) (s1 := 0) (g := (ab_G (ab_ui mi 40 0 0) ml)) rfl ⟨trivial, trivial, trivial, trivial, trivial, trivial, trivial⟩ hc ?_
  refine ab_wk 1 (f' := (if r3 = 0 then 14 else 16, [some (.ref 40), some (.int x1), none, none], [], 0, 0, (ab_G mi1 ml2))) rfl ⟨trivial, trivial⟩ ?_
  refine ab_wi (fun c => ?_) (fun c => ?_)
  · have h := h.1 c
    exact ab_wr 2 rfl ⟨trivial, trivial⟩ h
  · have h := h.2 c
    obtain ⟨mi4, ml5, hc, h⟩ := h
    refine ab_wc 2 (c := 190) (as := [.ref 40]) (pc := 20) (ll := [some (.ref 40), some (.int x1), none, none]) (st := []) (c1 := 0) (s1 := 0) (g := (ab_G mi1 ml2)) rfl ⟨trivial, trivial⟩ hc ?_
    exact ab_wk 9 (f' := (31, [some (.ref 40), some (.int x1), some (.int (((1 : Int32) <<< ((mi4 40 12) &&& 31)) - 1)), some (.int 0)], [], 0, 0, (ab_G mi4 ml5))) rfl ⟨trivial, trivial, trivial, trivial, trivial, trivial, trivial, trivial, trivial, trivial⟩ h
theorem vc_X12_fewest_31 {call : Nat → List Value → ab_S → Option Value → ab_S → Prop} {ro : ab_E} {Q : Option Value → ab_S → Prop} (y1 : Int32) (y2 : Int32) (y3 : Int32) (mi : Nat → Nat → Int32) (ml : Nat → Nat → Int64)
    (h : ((y3 < ((1 : Int32) <<< ((mi 40 12) &&& 31))) → (∃ (r8 : Int32) (mi6 : Nat → Nat → Int32) (ml7 : Nat → Nat → Int64), call 161 [.int y3] (ab_G mi ml) (some (.int r8)) (ab_G mi6 ml7) ∧ (∃ (r11 : Int32) (mi9 : Nat → Nat → Int32) (ml10 : Nat → Nat → Int64), call 161 [.int y2] (ab_G mi6 ml7) (some (.int r11)) (ab_G mi9 ml10) ∧ (((r8 < r11) → (∃ (r14 : Int32) (mi12 : Nat → Nat → Int32) (ml13 : Nat → Nat → Int64), call 207 [.ref 40, .int y3, .long (ml10 40 40), .long (ml10 40 41)] (ab_G mi9 ml10) (some (.int r14)) (ab_G mi12 ml13) ∧ (((r14 = 0) → (ab_W call ro 0 0 (ab_lk2 pl_X12_fewest) Q (31, [some (.ref 40), some (.int y1), some (.int y2), some (.int (y3 + 1))], [], 0, 0, (ab_G mi12 ml13)))) ∧ (¬ (r14 = 0) → (ab_W call ro 0 0 (ab_lk2 pl_X12_fewest) Q (31, [some (.ref 40), some (.int y1), some (.int y3), some (.int (y3 + 1))], [], 0, 0, (ab_G mi12 ml13))))))) ∧ (¬ (r8 < r11) → (ab_W call ro 0 0 (ab_lk2 pl_X12_fewest) Q (31, [some (.ref 40), some (.int y1), some (.int y2), some (.int (y3 + 1))], [], 0, 0, (ab_G mi9 ml10)))))))) ∧ (¬ (y3 < ((1 : Int32) <<< ((mi 40 12) &&& 31))) → (((y1 = 0) → (∃ (r17 : Int32) (mi15 : Nat → Nat → Int32) (ml16 : Nat → Nat → Int64), call 161 [.int y2] (ab_G mi ml) (some (.int r17)) (ab_G mi15 ml16) ∧ (Q (some (.int r17)) (ab_G mi15 ml16)))) ∧ (¬ (y1 = 0) → (Q (some (.int y2)) (ab_G mi ml)))))) :
    ab_W call ro 0 0 (ab_lk2 pl_X12_fewest) Q (31, [some (.ref 40), some (.int y1), some (.int y2), some (.int y3)], [], 0, 0, ab_G mi ml) := by
  refine ab_wk 6 (f' := (if y3 < ((1 : Int32) <<< ((mi 40 12) &&& 31)) then 41 else 76, [some (.ref 40), some (.int y1), some (.int y2), some (.int y3)], [], 0, 0, (ab_G mi ml))) rfl ⟨trivial, trivial, trivial, trivial, trivial, trivial, trivial⟩ ?_
  refine ab_wi (fun c => ?_) (fun c => ?_)
  · have h := h.1 c
    obtain ⟨r8, mi6, ml7, hc, h⟩ := h
    refine ab_wc 2 (c := 161) (as := [.int y3]) (pc := 45) (ll := [some (.ref 40), some (.int y1), some (.int y2), some (.int y3)]) (st := []) (c1 := 0) (s1 := 0) (g := (ab_G mi ml)) rfl ⟨trivial, trivial⟩ hc ?_
    obtain ⟨r11, mi9, ml10, hc, h⟩ := h
    refine ab_wc 2 (c := 161) (as := [.int y2]) (pc := 49) (ll := [some (.ref 40), some (.int y1), some (.int y2), some (.int y3)]) (st := [.int r8]) (c1 := 0) (s1 := 0) (g := (ab_G mi6 ml7)) rfl ⟨trivial, trivial⟩ hc ?_
    refine ab_wk 1 (f' := (if r8 < r11 then 52 else 70, [some (.ref 40), some (.int y1), some (.int y2), some (.int y3)], [], 0, 0, (ab_G mi9 ml10))) rfl ⟨trivial, trivial⟩ ?_
    refine ab_wi (fun c => ?_) (fun c => ?_)
    · have h := h.1 c
      obtain ⟨r14, mi12, ml13, hc, h⟩ := h
      refine ab_wc 7 (c := 207) (as := [.ref 40, .int y3, .long (ml10 40 40), .long (ml10 40 41)]) (pc := 65) (ll := [some (.ref 40), some (.int y1), some (.int y2), some (.int y3)]) (st := []) (c1 := 0) (s1 := 0) (g := (ab_G mi9 ml10)) rfl ⟨trivial, trivial, trivial, trivial, trivial, trivial, trivial⟩ hc ?_
      refine ab_wk 1 (f' := (if r14 = 0 then 70 else 68, [some (.ref 40), some (.int y1), some (.int y2), some (.int y3)], [], 0, 0, (ab_G mi12 ml13))) rfl ⟨trivial, trivial⟩ ?_
      refine ab_wi (fun c => ?_) (fun c => ?_)
      · have h := h.1 c
        exact ab_wk 2 (f' := (31, [some (.ref 40), some (.int y1), some (.int y2), some (.int (y3 + 1))], [], 0, 0, (ab_G mi12 ml13))) rfl ⟨trivial, trivial, trivial⟩ h
      · have h := h.2 c
        exact ab_wk 4 (f' := (31, [some (.ref 40), some (.int y1), some (.int y3), some (.int (y3 + 1))], [], 0, 0, (ab_G mi12 ml13))) rfl ⟨trivial, trivial, trivial, trivial, trivial⟩ h
    · have h := h.2 c
      exact ab_wk 2 (f' := (31, [some (.ref 40), some (.int y1), some (.int y2), some (.int (y3 + 1))], [], 0, 0, (ab_G mi9 ml10))) rfl ⟨trivial, trivial, trivial⟩ h
  · have h := h.2 c
    refine ab_wk 2 (f' := (if y1 = 0 then 80 else 87, [some (.ref 40), some (.int y1), some (.int y2), some (.int y3)], [], 0, 0, (ab_G mi ml))) rfl ⟨trivial, trivial, trivial⟩ ?_
    refine ab_wi (fun c => ?_) (fun c => ?_)
    · have h := h.1 c
      obtain ⟨r17, mi15, ml16, hc, h⟩ := h
      refine ab_wc 2 (c := 161) (as := [.int y2]) (pc := 84) (ll := [some (.ref 40), some (.int y1), some (.int y2), some (.int y3)]) (st := []) (c1 := 0) (s1 := 0) (g := (ab_G mi ml)) rfl ⟨trivial, trivial⟩ hc ?_
      exact ab_wr 2 rfl ⟨trivial, trivial⟩ h
    · have h := h.2 c
      exact ab_wr 2 rfl ⟨trivial, trivial⟩ h
theorem vc_X12_takesGroups_0 {call : Nat → List Value → ab_S → Option Value → ab_S → Prop} {ro : ab_E} {Q : Option Value → ab_S → Prop} (x1 : Int32) (mi : Nat → Nat → Int32) (ml : Nat → Nat → Int64)
    (h : ∃ (mi1 : Nat → Nat → Int32) (ml2 : Nat → Nat → Int64), call 189 [.ref 40] (ab_G mi ml) none (ab_G mi1 ml2) ∧ (ab_W call ro 0 0 (ab_lk2 pl_X12_takesGroups) Q (6, [some (.ref 40), some (.int x1), some (.int 0)], [], 0, 0, (ab_G mi1 ml2)))) :
    ab_W call ro 0 0 (ab_lk2 pl_X12_takesGroups) Q (0, [some (.ref 40), some (.int x1), none], [], 0, 0, ab_G mi ml) := by
  obtain ⟨mi1, ml2, hc, h⟩ := h
  refine ab_wc 2 (c := 189) (as := [.ref 40]) (pc := 4) (ll := [some (.ref 40), some (.int x1), none]) (st := []) (c1 := 0) (s1 := 0) (g := (ab_G mi ml)) rfl ⟨trivial, trivial⟩ hc ?_
  exact ab_wk 2 (f' := (6, [some (.ref 40), some (.int x1), some (.int 0)], [], 0, 0, (ab_G mi1 ml2))) rfl ⟨trivial, trivial, trivial⟩ h
theorem vc_X12_takesGroups_6 {call : Nat → List Value → ab_S → Option Value → ab_S → Prop} {ro : ab_E} {Q : Option Value → ab_S → Prop} (y1 : Int32) (y2 : Int32) (mi : Nat → Nat → Int32) (ml : Nat → Nat → Int64)
    (h : ((y2 < (mi 40 45)) → (((((y1 >>> (y2 &&& 31)) &&& 1) = 1) → (vp_in y2 30 ∧ (vp_in (mi 69 (y2).toNatClampNeg) 30 ∧ (ab_W call ro 0 0 (ab_lk2 pl_X12_takesGroups) Q (6, [some (.ref 40), some (.int y1), some (.int (y2 + 1))], [], 0, 0, (ab_G (ab_ui mi 67 ((mi 69 (y2).toNatClampNeg)).toNatClampNeg (vp_nar .boolean 1)) ml)))))) ∧ (¬ (((y1 >>> (y2 &&& 31)) &&& 1) = 1) → (ab_W call ro 0 0 (ab_lk2 pl_X12_takesGroups) Q (6, [some (.ref 40), some (.int y1), some (.int (y2 + 1))], [], 0, 0, (ab_G mi ml)))))) ∧ (¬ (y2 < (mi 40 45)) → (Q none (ab_G mi ml)))) :
    ab_W call ro 0 0 (ab_lk2 pl_X12_takesGroups) Q (6, [some (.ref 40), some (.int y1), some (.int y2)], [], 0, 0, ab_G mi ml) := by
  refine ab_wk 4 (f' := (if y2 < (mi 40 45) then 14 else 41, [some (.ref 40), some (.int y1), some (.int y2)], [], 0, 0, (ab_G mi ml))) rfl ⟨trivial, trivial, trivial, trivial, trivial⟩ ?_
  refine ab_wi (fun c => ?_) (fun c => ?_)
  · have h := h.1 c
    refine ab_wk 7 (f' := (if ((y1 >>> (y2 &&& 31)) &&& 1) = 1 then 23 else 35, [some (.ref 40), some (.int y1), some (.int y2)], [], 0, 0, (ab_G mi ml))) rfl ⟨trivial, trivial, trivial, trivial, trivial, trivial, trivial, trivial⟩ ?_
    refine ab_wi (fun c => ?_) (fun c => ?_)
    · have h := h.1 c
      obtain ⟨p0, p1, h⟩ := h
      exact ab_wk 10 (f' := (6, [some (.ref 40), some (.int y1), some (.int (y2 + 1))], [], 0, 0, (ab_G (ab_ui mi 67 ((mi 69 (y2).toNatClampNeg)).toNatClampNeg (vp_nar .boolean 1)) ml))) rfl ⟨trivial, trivial, trivial, trivial, trivial, p0, trivial, p1, trivial, trivial, trivial⟩ h
    · have h := h.2 c
      exact ab_wk 2 (f' := (6, [some (.ref 40), some (.int y1), some (.int (y2 + 1))], [], 0, 0, (ab_G mi ml))) rfl ⟨trivial, trivial, trivial⟩ h
  · have h := h.2 c
    exact ab_wr 1 rfl trivial h
theorem vc_X12_touch_0 {call : Nat → List Value → ab_S → Option Value → ab_S → Prop} {ro : ab_E} {Q : Option Value → ab_S → Prop} (x1 : Int32) (x2 : Int32) (mi : Nat → Nat → Int32) (ml : Nat → Nat → Int64)
    (h : vp_in x1 30 ∧ (vp_in x2 30 ∧ (vp_in (mi 69 (x1).toNatClampNeg) 30 ∧ (vp_in (mi 69 (x2).toNatClampNeg) 30 ∧ ((((mi 53 ((mi 69 (x1).toNatClampNeg)).toNatClampNeg) = (mi 53 ((mi 69 (x2).toNatClampNeg)).toNatClampNeg)) → (vp_in (mi 69 (x1).toNatClampNeg) 30 ∧ ((((mi 53 ((mi 69 (x1).toNatClampNeg)).toNatClampNeg) < 0) → (Q (some (.int 0)) (ab_G mi ml))) ∧ (¬ ((mi 53 ((mi 69 (x1).toNatClampNeg)).toNatClampNeg) < 0) → (vp_in (mi 69 (x1).toNatClampNeg) 30 ∧ (vp_in (mi 69 (x2).toNatClampNeg) 30 ∧ ((((mi 52 ((mi 69 (x1).toNatClampNeg)).toNatClampNeg) = (mi 52 ((mi 69 (x2).toNatClampNeg)).toNatClampNeg)) → (vp_in (mi 69 (x1).toNatClampNeg) 30 ∧ ((((mi 52 ((mi 69 (x1).toNatClampNeg)).toNatClampNeg) = 2) → (vp_in (mi 69 (x1).toNatClampNeg) 30 ∧ (vp_in (mi 69 (x2).toNatClampNeg) 30 ∧ ((((mi 54 ((mi 69 (x1).toNatClampNeg)).toNatClampNeg) = (mi 54 ((mi 69 (x2).toNatClampNeg)).toNatClampNeg)) → (vp_in (mi 69 (x1).toNatClampNeg) 30 ∧ (vp_in (mi 69 (x2).toNatClampNeg) 30 ∧ ((((lg_cmp (ml 55 ((mi 69 (x1).toNatClampNeg)).toNatClampNeg) (ml 55 ((mi 69 (x2).toNatClampNeg)).toNatClampNeg)) = 0) → (vp_in (mi 69 (x1).toNatClampNeg) 30 ∧ (vp_in (mi 69 (x2).toNatClampNeg) 30 ∧ ((((lg_cmp (ml 56 ((mi 69 (x1).toNatClampNeg)).toNatClampNeg) (ml 56 ((mi 69 (x2).toNatClampNeg)).toNatClampNeg)) = 0) → (Q (some (.int 0)) (ab_G mi ml))) ∧ (¬ ((lg_cmp (ml 56 ((mi 69 (x1).toNatClampNeg)).toNatClampNeg) (ml 56 ((mi 69 (x2).toNatClampNeg)).toNatClampNeg)) = 0) → (Q (some (.int 1)) (ab_G mi ml))))))) ∧ (¬ ((lg_cmp (ml 55 ((mi 69 (x1).toNatClampNeg)).toNatClampNeg) (ml 55 ((mi 69 (x2).toNatClampNeg)).toNatClampNeg)) = 0) → (Q (some (.int 1)) (ab_G mi ml))))))) ∧ (¬ ((mi 54 ((mi 69 (x1).toNatClampNeg)).toNatClampNeg) = (mi 54 ((mi 69 (x2).toNatClampNeg)).toNatClampNeg)) → (Q (some (.int 1)) (ab_G mi ml))))))) ∧ (¬ ((mi 52 ((mi 69 (x1).toNatClampNeg)).toNatClampNeg) = 2) → (Q (some (.int 0)) (ab_G mi ml)))))) ∧ (¬ ((mi 52 ((mi 69 (x1).toNatClampNeg)).toNatClampNeg) = (mi 52 ((mi 69 (x2).toNatClampNeg)).toNatClampNeg)) → (Q (some (.int 1)) (ab_G mi ml)))))))))) ∧ (¬ ((mi 53 ((mi 69 (x1).toNatClampNeg)).toNatClampNeg) = (mi 53 ((mi 69 (x2).toNatClampNeg)).toNatClampNeg)) → (Q (some (.int 0)) (ab_G mi ml)))))))) :
    ab_W call ro 0 0 (ab_lk2 pl_X12_touch) Q (0, [some (.ref 40), some (.int x1), some (.int x2), none, none], [], 0, 0, ab_G mi ml) := by
  obtain ⟨p0, p1, p2, p3, h⟩ := h
  refine ab_wk 19 (f' := (if (mi 53 ((mi 69 (x1).toNatClampNeg)).toNatClampNeg) = (mi 53 ((mi 69 (x2).toNatClampNeg)).toNatClampNeg) then 31 else 40, [some (.ref 40), some (.int x1), some (.int x2), some (.int (mi 69 (x1).toNatClampNeg)), some (.int (mi 69 (x2).toNatClampNeg))], [], 0, 0, (ab_G mi ml))) rfl ⟨trivial, trivial, trivial, p0, trivial, trivial, trivial, trivial, p1, trivial, trivial, trivial, trivial, p2, trivial, trivial, trivial, p3, trivial, trivial⟩ ?_
  refine ab_wi (fun c => ?_) (fun c => ?_)
  · have h := h.1 c
    obtain ⟨p0, h⟩ := h
    refine ab_wk 5 (f' := (if (mi 53 ((mi 69 (x1).toNatClampNeg)).toNatClampNeg) < 0 then 40 else 42, [some (.ref 40), some (.int x1), some (.int x2), some (.int (mi 69 (x1).toNatClampNeg)), some (.int (mi 69 (x2).toNatClampNeg))], [], 0, 0, (ab_G mi ml))) rfl ⟨trivial, trivial, trivial, p0, trivial, trivial⟩ ?_
    refine ab_wi (fun c => ?_) (fun c => ?_)
    · have h := h.1 c
      exact ab_wr 2 rfl ⟨trivial, (Or.inl rfl)⟩ h
    · have h := h.2 c
      obtain ⟨p0, p1, h⟩ := h
      refine ab_wk 9 (f' := (if (mi 52 ((mi 69 (x1).toNatClampNeg)).toNatClampNeg) = (mi 52 ((mi 69 (x2).toNatClampNeg)).toNatClampNeg) then 60 else 58, [some (.ref 40), some (.int x1), some (.int x2), some (.int (mi 69 (x1).toNatClampNeg)), some (.int (mi 69 (x2).toNatClampNeg))], [], 0, 0, (ab_G mi ml))) rfl ⟨trivial, trivial, trivial, p0, trivial, trivial, trivial, p1, trivial, trivial⟩ ?_
      refine ab_wi (fun c => ?_) (fun c => ?_)
      · have h := h.1 c
        obtain ⟨p0, h⟩ := h
        refine ab_wk 6 (f' := (if (mi 52 ((mi 69 (x1).toNatClampNeg)).toNatClampNeg) = 2 then 70 else 124, [some (.ref 40), some (.int x1), some (.int x2), some (.int (mi 69 (x1).toNatClampNeg)), some (.int (mi 69 (x2).toNatClampNeg))], [], 0, 0, (ab_G mi ml))) rfl ⟨trivial, trivial, trivial, p0, trivial, trivial, trivial⟩ ?_
        refine ab_wi (fun c => ?_) (fun c => ?_)
        · have h := h.1 c
          obtain ⟨p0, p1, h⟩ := h
          refine ab_wk 9 (f' := (if (mi 54 ((mi 69 (x1).toNatClampNeg)).toNatClampNeg) = (mi 54 ((mi 69 (x2).toNatClampNeg)).toNatClampNeg) then 86 else 120, [some (.ref 40), some (.int x1), some (.int x2), some (.int (mi 69 (x1).toNatClampNeg)), some (.int (mi 69 (x2).toNatClampNeg))], [], 0, 0, (ab_G mi ml))) rfl ⟨trivial, trivial, trivial, p0, trivial, trivial, trivial, p1, trivial, trivial⟩ ?_
          refine ab_wi (fun c => ?_) (fun c => ?_)
          · have h := h.1 c
            obtain ⟨p0, p1, h⟩ := h
            refine ab_wk 10 (f' := (if (lg_cmp (ml 55 ((mi 69 (x1).toNatClampNeg)).toNatClampNeg) (ml 55 ((mi 69 (x2).toNatClampNeg)).toNatClampNeg)) = 0 then 103 else 120, [some (.ref 40), some (.int x1), some (.int x2), some (.int (mi 69 (x1).toNatClampNeg)), some (.int (mi 69 (x2).toNatClampNeg))], [], 0, 0, (ab_G mi ml))) rfl ⟨trivial, trivial, trivial, p0, trivial, trivial, trivial, p1, trivial, trivial, trivial⟩ ?_
            refine ab_wi (fun c => ?_) (fun c => ?_)
            · have h := h.1 c
              obtain ⟨p0, p1, h⟩ := h
              refine ab_wk 10 (f' := (if (lg_cmp (ml 56 ((mi 69 (x1).toNatClampNeg)).toNatClampNeg) (ml 56 ((mi 69 (x2).toNatClampNeg)).toNatClampNeg)) = 0 then 124 else 120, [some (.ref 40), some (.int x1), some (.int x2), some (.int (mi 69 (x1).toNatClampNeg)), some (.int (mi 69 (x2).toNatClampNeg))], [], 0, 0, (ab_G mi ml))) rfl ⟨trivial, trivial, trivial, p0, trivial, trivial, trivial, p1, trivial, trivial, trivial⟩ ?_
              refine ab_wi (fun c => ?_) (fun c => ?_)
              · have h := h.1 c
                exact ab_wr 2 rfl ⟨trivial, (Or.inl rfl)⟩ h
              · have h := h.2 c
                exact ab_wr 3 rfl ⟨trivial, trivial, (Or.inr rfl)⟩ h
            · have h := h.2 c
              exact ab_wr 3 rfl ⟨trivial, trivial, (Or.inr rfl)⟩ h
          · have h := h.2 c
            exact ab_wr 3 rfl ⟨trivial, trivial, (Or.inr rfl)⟩ h
        · have h := h.2 c
          exact ab_wr 2 rfl ⟨trivial, (Or.inl rfl)⟩ h
      · have h := h.2 c
        exact ab_wr 2 rfl ⟨trivial, (Or.inr rfl)⟩ h
  · have h := h.2 c
    exact ab_wr 2 rfl ⟨trivial, (Or.inl rfl)⟩ h
theorem vc_X12_goTogether_0 {call : Nat → List Value → ab_S → Option Value → ab_S → Prop} {ro : ab_E} {Q : Option Value → ab_S → Prop} (x1 : Int32) (mi : Nat → Nat → Int32) (ml : Nat → Nat → Int64)
    (h : ab_W call ro 0 0 (ab_lk2 pl_X12_goTogether) Q (2, [some (.ref 40), some (.int x1), some (.int 0), none], [], 0, 0, (ab_G mi ml))) :
    ab_W call ro 0 0 (ab_lk2 pl_X12_goTogether) Q (0, [some (.ref 40), some (.int x1), none, none], [], 0, 0, ab_G mi ml) := by
  exact ab_wk 2 (f' := (2, [some (.ref 40), some (.int x1), some (.int 0), none], [], 0, 0, (ab_G mi ml))) rfl ⟨trivial, trivial, trivial⟩ h
theorem vc_X12_goTogether_2 {call : Nat → List Value → ab_S → Option Value → ab_S → Prop} {ro : ab_E} {Q : Option Value → ab_S → Prop} (y1 : Int32) (y2 : Int32) (mi : Nat → Nat → Int32) (ml : Nat → Nat → Int64)
    (h : ((y2 < (mi 40 45)) → (ab_W call ro 0 0 (ab_lk2 pl_X12_goTogether) Q (12, [some (.ref 40), some (.int y1), some (.int y2), some (.int 0)], [], 0, 0, (ab_G mi ml)))) ∧ (¬ (y2 < (mi 40 45)) → (∃ (mi1 : Nat → Nat → Int32) (ml2 : Nat → Nat → Int64), call 210 [.ref 40, .int y1] (ab_G mi ml) none (ab_G mi1 ml2) ∧ (∃ (mi3 : Nat → Nat → Int32) (ml4 : Nat → Nat → Int64), call 187 [.ref 40] (ab_G mi1 ml2) none (ab_G mi3 ml4) ∧ ((((mi3 40 42) = 0) → (Q (some (.int 1)) (ab_G mi3 ml4))) ∧ (¬ ((mi3 40 42) = 0) → (Q (some (.int 0)) (ab_G mi3 ml4)))))))) :
    ab_W call ro 0 0 (ab_lk2 pl_X12_goTogether) Q (2, [some (.ref 40), some (.int y1), some (.int y2), none], [], 0, 0, ab_G mi ml) := by
  refine ab_wk 4 (f' := (if y2 < (mi 40 45) then 10 else 58, [some (.ref 40), some (.int y1), some (.int y2), none], [], 0, 0, (ab_G mi ml))) rfl ⟨trivial, trivial, trivial, trivial, trivial⟩ ?_
  refine ab_wi (fun c => ?_) (fun c => ?_)
  · have h := h.1 c
    exact ab_wk 2 (f' := (12, [some (.ref 40), some (.int y1), some (.int y2), some (.int 0)], [], 0, 0, (ab_G mi ml))) rfl ⟨trivial, trivial, trivial⟩ h
  · have h := h.2 c
    obtain ⟨mi1, ml2, hc, h⟩ := h
    refine ab_wc 3 (c := 210) (as := [.ref 40, .int y1]) (pc := 63) (ll := [some (.ref 40), some (.int y1), some (.int y2), none]) (st := []) (c1 := 0) (s1 := 0) (g := (ab_G mi ml)) rfl ⟨trivial, trivial, trivial⟩ hc ?_
    obtain ⟨mi3, ml4, hc, h⟩ := h
    refine ab_wc 2 (c := 187) (as := [.ref 40]) (pc := 67) (ll := [some (.ref 40), some (.int y1), some (.int y2), none]) (st := []) (c1 := 0) (s1 := 0) (g := (ab_G mi1 ml2)) rfl ⟨trivial, trivial⟩ hc ?_
    refine ab_wk 3 (f' := (if (mi3 40 42) = 0 then 74 else 78, [some (.ref 40), some (.int y1), some (.int y2), none], [], 0, 0, (ab_G mi3 ml4))) rfl ⟨trivial, trivial, trivial, trivial⟩ ?_
    refine ab_wi (fun c => ?_) (fun c => ?_)
    · have h := h.1 c
      exact ab_wr 3 rfl ⟨trivial, trivial, (Or.inr rfl)⟩ h
    · have h := h.2 c
      exact ab_wr 2 rfl ⟨trivial, (Or.inl rfl)⟩ h
theorem vc_X12_goTogether_12 {call : Nat → List Value → ab_S → Option Value → ab_S → Prop} {ro : ab_E} {Q : Option Value → ab_S → Prop} (y1 : Int32) (y2 : Int32) (y3 : Int32) (mi : Nat → Nat → Int32) (ml : Nat → Nat → Int64)
    (h : ((y3 < y2) → (((((y1 >>> (y2 &&& 31)) &&& 1) = 1) → (((((y1 >>> (y3 &&& 31)) &&& 1) = 1) → (∃ (r7 : Int32) (mi5 : Nat → Nat → Int32) (ml6 : Nat → Nat → Int64), call 211 [.ref 40, .int y2, .int y3] (ab_G mi ml) (some (.int r7)) (ab_G mi5 ml6) ∧ (((r7 = 0) → (ab_W call ro 0 0 (ab_lk2 pl_X12_goTogether) Q (12, [some (.ref 40), some (.int y1), some (.int y2), some (.int (y3 + 1))], [], 0, 0, (ab_G mi5 ml6)))) ∧ (¬ (r7 = 0) → (Q (some (.int 0)) (ab_G mi5 ml6)))))) ∧ (¬ (((y1 >>> (y3 &&& 31)) &&& 1) = 1) → (ab_W call ro 0 0 (ab_lk2 pl_X12_goTogether) Q (12, [some (.ref 40), some (.int y1), some (.int y2), some (.int (y3 + 1))], [], 0, 0, (ab_G mi ml)))))) ∧ (¬ (((y1 >>> (y2 &&& 31)) &&& 1) = 1) → (ab_W call ro 0 0 (ab_lk2 pl_X12_goTogether) Q (12, [some (.ref 40), some (.int y1), some (.int y2), some (.int (y3 + 1))], [], 0, 0, (ab_G mi ml)))))) ∧ (¬ (y3 < y2) → (ab_W call ro 0 0 (ab_lk2 pl_X12_goTogether) Q (2, [some (.ref 40), some (.int y1), some (.int (y2 + 1)), none], [], 0, 0, (ab_G mi ml))))) :
    ab_W call ro 0 0 (ab_lk2 pl_X12_goTogether) Q (12, [some (.ref 40), some (.int y1), some (.int y2), some (.int y3)], [], 0, 0, ab_G mi ml) := by
  refine ab_wk 3 (f' := (if y3 < y2 then 17 else 52, [some (.ref 40), some (.int y1), some (.int y2), some (.int y3)], [], 0, 0, (ab_G mi ml))) rfl ⟨trivial, trivial, trivial, trivial⟩ ?_
  refine ab_wi (fun c => ?_) (fun c => ?_)
  · have h := h.1 c
    refine ab_wk 7 (f' := (if ((y1 >>> (y2 &&& 31)) &&& 1) = 1 then 26 else 46, [some (.ref 40), some (.int y1), some (.int y2), some (.int y3)], [], 0, 0, (ab_G mi ml))) rfl ⟨trivial, trivial, trivial, trivial, trivial, trivial, trivial, trivial⟩ ?_
    refine ab_wi (fun c => ?_) (fun c => ?_)
    · have h := h.1 c
      refine ab_wk 7 (f' := (if ((y1 >>> (y3 &&& 31)) &&& 1) = 1 then 35 else 46, [some (.ref 40), some (.int y1), some (.int y2), some (.int y3)], [], 0, 0, (ab_G mi ml))) rfl ⟨trivial, trivial, trivial, trivial, trivial, trivial, trivial, trivial⟩ ?_
      refine ab_wi (fun c => ?_) (fun c => ?_)
      · have h := h.1 c
        obtain ⟨r7, mi5, ml6, hc, h⟩ := h
        refine ab_wc 4 (c := 211) (as := [.ref 40, .int y2, .int y3]) (pc := 41) (ll := [some (.ref 40), some (.int y1), some (.int y2), some (.int y3)]) (st := []) (c1 := 0) (s1 := 0) (g := (ab_G mi ml)) rfl ⟨trivial, trivial, trivial, trivial⟩ hc ?_
        refine ab_wk 1 (f' := (if r7 = 0 then 46 else 44, [some (.ref 40), some (.int y1), some (.int y2), some (.int y3)], [], 0, 0, (ab_G mi5 ml6))) rfl ⟨trivial, trivial⟩ ?_
        refine ab_wi (fun c => ?_) (fun c => ?_)
        · have h := h.1 c
          exact ab_wk 2 (f' := (12, [some (.ref 40), some (.int y1), some (.int y2), some (.int (y3 + 1))], [], 0, 0, (ab_G mi5 ml6))) rfl ⟨trivial, trivial, trivial⟩ h
        · have h := h.2 c
          exact ab_wr 2 rfl ⟨trivial, (Or.inl rfl)⟩ h
      · have h := h.2 c
        exact ab_wk 2 (f' := (12, [some (.ref 40), some (.int y1), some (.int y2), some (.int (y3 + 1))], [], 0, 0, (ab_G mi ml))) rfl ⟨trivial, trivial, trivial⟩ h
    · have h := h.2 c
      exact ab_wk 2 (f' := (12, [some (.ref 40), some (.int y1), some (.int y2), some (.int (y3 + 1))], [], 0, 0, (ab_G mi ml))) rfl ⟨trivial, trivial, trivial⟩ h
  · have h := h.2 c
    exact ab_wk 2 (f' := (2, [some (.ref 40), some (.int y1), some (.int (y2 + 1)), some (.int y3)], [], 0, 0, (ab_G mi ml))) rfl ⟨trivial, trivial, trivial⟩ (ab_drop h (ab_lrc _ (ab_lrc _ (ab_lrc _ (ab_lrn _ ab_lr0)))))
theorem vc_X12_clashOf_0 {call : Nat → List Value → ab_S → Option Value → ab_S → Prop} {ro : ab_E} {Q : Option Value → ab_S → Prop} (x1 : Int32) (x2 : Int32) (mi : Nat → Nat → Int32) (ml : Nat → Nat → Int64)
    (h : ∃ (r3 : Int32) (mi1 : Nat → Nat → Int32) (ml2 : Nat → Nat → Int64), call 211 [.ref 40, .int x1, .int x2] (ab_G mi ml) (some (.int r3)) (ab_G mi1 ml2) ∧ (((r3 = 0) → (∃ (mi4 : Nat → Nat → Int32) (ml5 : Nat → Nat → Int64), call 210 [.ref 40, .int (((1 : Int32) <<< (x1 &&& 31)) ||| ((1 : Int32) <<< (x2 &&& 31)))] (ab_G mi1 ml2) none (ab_G mi4 ml5) ∧ (∃ (mi6 : Nat → Nat → Int32) (ml7 : Nat → Nat → Int64), call 187 [.ref 40] (ab_G mi4 ml5) none (ab_G mi6 ml7) ∧ (Q (some (.int (mi6 40 42))) (ab_G mi6 ml7))))) ∧ (¬ (r3 = 0) → (Q (some (.int 1)) (ab_G mi1 ml2))))) :
    ab_W call ro 0 0 (ab_lk2 pl_X12_clashOf) Q (0, [some (.ref 40), some (.int x1), some (.int x2)], [], 0, 0, ab_G mi ml) := by
  obtain ⟨r3, mi1, ml2, hc, h⟩ := h
  refine ab_wc 4 (c := 211) (as := [.ref 40, .int x1, .int x2]) (pc := 6) (ll := [some (.ref 40), some (.int x1), some (.int x2)]) (st := []) (c1 := 0) (s1 := 0) (g := (ab_G mi ml)) rfl ⟨trivial, trivial, trivial, trivial⟩ hc ?_
  refine ab_wk 1 (f' := (if r3 = 0 then 11 else 9, [some (.ref 40), some (.int x1), some (.int x2)], [], 0, 0, (ab_G mi1 ml2))) rfl ⟨trivial, trivial⟩ ?_
  refine ab_wi (fun c => ?_) (fun c => ?_)
  · have h := h.1 c
    obtain ⟨mi4, ml5, hc, h⟩ := h
    refine ab_wc 9 (c := 210) (as := [.ref 40, .int (((1 : Int32) <<< (x1 &&& 31)) ||| ((1 : Int32) <<< (x2 &&& 31)))]) (pc := 22) (ll := [some (.ref 40), some (.int x1), some (.int x2)]) (st := []) (c1 := 0) (s1 := 0) (g := (ab_G mi1 ml2)) rfl ⟨trivial, trivial, trivial, trivial, trivial, trivial, trivial, trivial, trivial⟩ hc ?_
    obtain ⟨mi6, ml7, hc, h⟩ := h
    refine ab_wc 2 (c := 187) (as := [.ref 40]) (pc := 26) (ll := [some (.ref 40), some (.int x1), some (.int x2)]) (st := []) (c1 := 0) (s1 := 0) (g := (ab_G mi4 ml5)) rfl ⟨trivial, trivial⟩ hc ?_
    exact ab_wr 3 rfl ⟨trivial, trivial, trivial⟩ h
  · have h := h.2 c
    exact ab_wr 2 rfl ⟨trivial, trivial⟩ h
theorem vc_X12_clash_0 {call : Nat → List Value → ab_S → Option Value → ab_S → Prop} {ro : ab_E} {Q : Option Value → ab_S → Prop} (x1 : Int32) (x2 : Int32) (mi : Nat → Nat → Int32) (ml : Nat → Nat → Int64)
    (h : ∃ (mi1 : Nat → Nat → Int32) (ml2 : Nat → Nat → Int64), call 198 [.ref 40] (ab_G (ab_ui mi 40 0 0) ml) none (ab_G mi1 ml2) ∧ (∃ (r5 : Int32) (mi3 : Nat → Nat → Int32) (ml4 : Nat → Nat → Int64), call 200 [.ref 40, .int x1] (ab_G mi1 ml2) (some (.int r5)) (ab_G mi3 ml4) ∧ (((r5 = 0) → (Q (some (.int (-1))) (ab_G mi3 ml4))) ∧ (¬ (r5 = 0) → (∃ (r8 : Int32) (mi6 : Nat → Nat → Int32) (ml7 : Nat → Nat → Int64), call 200 [.ref 40, .int x2] (ab_G mi3 ml4) (some (.int r8)) (ab_G mi6 ml7) ∧ (((r8 = 0) → (Q (some (.int (-1))) (ab_G mi6 ml7))) ∧ (¬ (r8 = 0) → (((x1 = x2) → (Q (some (.int (-1))) (ab_G mi6 ml7))) ∧ (¬ (x1 = x2) → (∃ (r11 : Int32) (mi9 : Nat → Nat → Int32) (ml10 : Nat → Nat → Int64), call 213 [.ref 40, .int x1, .int x2] (ab_G mi6 ml7) (some (.int r11)) (ab_G mi9 ml10) ∧ (Q (some (.int r11)) (ab_G mi9 ml10)))))))))))) :
    ab_W call ro 0 0 (ab_lk2 pl_X12_clash) Q (0, [some (.ref 40), some (.int x1), some (.int x2)], [], 0, 0, ab_G mi ml) := by
  obtain ⟨mi1, ml2, hc, h⟩ := h
  refine ab_wc 5 (c := 198) (as := [.ref 40]) (pc := 9) (ll := [some (.ref 40), some (.int x1), some (.int x2)]) (st := []) (c1 := 0) (s1 := 0) (g := (ab_G (ab_ui mi 40 0 0) ml)) rfl ⟨trivial, trivial, trivial, trivial, trivial⟩ hc ?_
  obtain ⟨r5, mi3, ml4, hc, h⟩ := h
  refine ab_wc 3 (c := 200) (as := [.ref 40, .int x1]) (pc := 14) (ll := [some (.ref 40), some (.int x1), some (.int x2)]) (st := []) (c1 := 0) (s1 := 0) (g := (ab_G mi1 ml2)) rfl ⟨trivial, trivial, trivial⟩ hc ?_
  refine ab_wk 1 (f' := (if r5 = 0 then 30 else 17, [some (.ref 40), some (.int x1), some (.int x2)], [], 0, 0, (ab_G mi3 ml4))) rfl ⟨trivial, trivial⟩ ?_
  refine ab_wi (fun c => ?_) (fun c => ?_)
  · have h := h.1 c
    exact ab_wr 3 rfl ⟨trivial, trivial, trivial⟩ h
  · have h := h.2 c
    obtain ⟨r8, mi6, ml7, hc, h⟩ := h
    refine ab_wc 3 (c := 200) (as := [.ref 40, .int x2]) (pc := 22) (ll := [some (.ref 40), some (.int x1), some (.int x2)]) (st := []) (c1 := 0) (s1 := 0) (g := (ab_G mi3 ml4)) rfl ⟨trivial, trivial, trivial⟩ hc ?_
    refine ab_wk 1 (f' := (if r8 = 0 then 30 else 25, [some (.ref 40), some (.int x1), some (.int x2)], [], 0, 0, (ab_G mi6 ml7))) rfl ⟨trivial, trivial⟩ ?_
    refine ab_wi (fun c => ?_) (fun c => ?_)
    · have h := h.1 c
      exact ab_wr 3 rfl ⟨trivial, trivial, trivial⟩ h
    · have h := h.2 c
      refine ab_wk 3 (f' := (if x1 = x2 then 30 else 34, [some (.ref 40), some (.int x1), some (.int x2)], [], 0, 0, (ab_G mi6 ml7))) rfl ⟨trivial, trivial, trivial, trivial⟩ ?_
      refine ab_wi (fun c => ?_) (fun c => ?_)
      · have h := h.1 c
        exact ab_wr 3 rfl ⟨trivial, trivial, trivial⟩ h
      · have h := h.2 c
        obtain ⟨r11, mi9, ml10, hc, h⟩ := h
        refine ab_wc 4 (c := 213) (as := [.ref 40, .int x1, .int x2]) (pc := 40) (ll := [some (.ref 40), some (.int x1), some (.int x2)]) (st := []) (c1 := 0) (s1 := 0) (g := (ab_G mi6 ml7)) rfl ⟨trivial, trivial, trivial, trivial⟩ hc ?_
        exact ab_wr 1 rfl trivial h
theorem vc_X12_isSet_0 {call : Nat → List Value → ab_S → Option Value → ab_S → Prop} {ro : ab_E} {Q : Option Value → ab_S → Prop} (x1 : Int32) (mi : Nat → Nat → Int32) (ml : Nat → Nat → Int64)
    (h : ((x1 < 0) → (Q (some (.int 0)) (ab_G mi ml))) ∧ (¬ (x1 < 0) → (((x1 < ((1 : Int32) <<< ((mi 40 45) &&& 31))) → (Q (some (.int 1)) (ab_G mi ml))) ∧ (¬ (x1 < ((1 : Int32) <<< ((mi 40 45) &&& 31))) → (Q (some (.int 0)) (ab_G mi ml)))))) :
    ab_W call ro 0 0 (ab_lk2 pl_X12_isSet) Q (0, [some (.ref 40), some (.int x1)], [], 0, 0, ab_G mi ml) := by
  refine ab_wk 2 (f' := (if x1 < 0 then 18 else 4, [some (.ref 40), some (.int x1)], [], 0, 0, (ab_G mi ml))) rfl ⟨trivial, trivial, trivial⟩ ?_
  refine ab_wi (fun c => ?_) (fun c => ?_)
  · have h := h.1 c
    exact ab_wr 2 rfl ⟨trivial, (Or.inl rfl)⟩ h
  · have h := h.2 c
    refine ab_wk 6 (f' := (if x1 < ((1 : Int32) <<< ((mi 40 45) &&& 31)) then 14 else 18, [some (.ref 40), some (.int x1)], [], 0, 0, (ab_G mi ml))) rfl ⟨trivial, trivial, trivial, trivial, trivial, trivial, trivial⟩ ?_
    refine ab_wi (fun c => ?_) (fun c => ?_)
    · have h := h.1 c
      exact ab_wr 3 rfl ⟨trivial, trivial, (Or.inr rfl)⟩ h
    · have h := h.2 c
      exact ab_wr 2 rfl ⟨trivial, (Or.inl rfl)⟩ h
theorem vc_X12_together_0 {call : Nat → List Value → ab_S → Option Value → ab_S → Prop} {ro : ab_E} {Q : Option Value → ab_S → Prop} (x1 : Int32) (mi : Nat → Nat → Int32) (ml : Nat → Nat → Int64)
    (h : ∃ (mi1 : Nat → Nat → Int32) (ml2 : Nat → Nat → Int64), call 198 [.ref 40] (ab_G (ab_ui mi 40 0 0) ml) none (ab_G mi1 ml2) ∧ (∃ (r5 : Int32) (mi3 : Nat → Nat → Int32) (ml4 : Nat → Nat → Int64), call 215 [.ref 40, .int x1] (ab_G mi1 ml2) (some (.int r5)) (ab_G mi3 ml4) ∧ (((r5 = 0) → (Q (some (.int (-1))) (ab_G mi3 ml4))) ∧ (¬ (r5 = 0) → (∃ (r8 : Int32) (mi6 : Nat → Nat → Int32) (ml7 : Nat → Nat → Int64), call 212 [.ref 40, .int x1] (ab_G mi3 ml4) (some (.int r8)) (ab_G mi6 ml7) ∧ (((r8 = 0) → (Q (some (.int 0)) (ab_G mi6 ml7))) ∧ (¬ (r8 = 0) → (Q (some (.int 1)) (ab_G mi6 ml7))))))))) :
    ab_W call ro 0 0 (ab_lk2 pl_X12_together) Q (0, [some (.ref 40), some (.int x1)], [], 0, 0, ab_G mi ml) := by
  obtain ⟨mi1, ml2, hc, h⟩ := h
  refine ab_wc 5 (c := 198) (as := [.ref 40]) (pc := 9) (ll := [some (.ref 40), some (.int x1)]) (st := []) (c1 := 0) (s1 := 0) (g := (ab_G (ab_ui mi 40 0 0) ml)) rfl ⟨trivial, trivial, trivial, trivial, trivial⟩ hc ?_
  obtain ⟨r5, mi3, ml4, hc, h⟩ := h
  refine ab_wc 3 (c := 215) (as := [.ref 40, .int x1]) (pc := 14) (ll := [some (.ref 40), some (.int x1)]) (st := []) (c1 := 0) (s1 := 0) (g := (ab_G mi1 ml2)) rfl ⟨trivial, trivial, trivial⟩ hc ?_
  refine ab_wk 1 (f' := (if r5 = 0 then 17 else 21, [some (.ref 40), some (.int x1)], [], 0, 0, (ab_G mi3 ml4))) rfl ⟨trivial, trivial⟩ ?_
  refine ab_wi (fun c => ?_) (fun c => ?_)
  · have h := h.1 c
    exact ab_wr 3 rfl ⟨trivial, trivial, trivial⟩ h
  · have h := h.2 c
    obtain ⟨r8, mi6, ml7, hc, h⟩ := h
    refine ab_wc 3 (c := 212) (as := [.ref 40, .int x1]) (pc := 26) (ll := [some (.ref 40), some (.int x1)]) (st := []) (c1 := 0) (s1 := 0) (g := (ab_G mi3 ml4)) rfl ⟨trivial, trivial, trivial⟩ hc ?_
    refine ab_wk 1 (f' := (if r8 = 0 then 33 else 29, [some (.ref 40), some (.int x1)], [], 0, 0, (ab_G mi6 ml7))) rfl ⟨trivial, trivial⟩ ?_
    refine ab_wi (fun c => ?_) (fun c => ?_)
    · have h := h.1 c
      exact ab_wr 2 rfl ⟨trivial, trivial⟩ h
    · have h := h.2 c
      exact ab_wr 3 rfl ⟨trivial, trivial, trivial⟩ h
theorem vc_X12_findLeast_0 {call : Nat → List Value → ab_S → Option Value → ab_S → Prop} {ro : ab_E} {Q : Option Value → ab_S → Prop} (x1 : Int32) (x2 : Int32) (mi : Nat → Nat → Int32) (ml : Nat → Nat → Int64)
    (h : ∃ (mi1 : Nat → Nat → Int32) (ml2 : Nat → Nat → Int64), call 198 [.ref 40] (ab_G mi ml) none (ab_G mi1 ml2) ∧ (∃ (r5 : Int32) (mi3 : Nat → Nat → Int32) (ml4 : Nat → Nat → Int64), call 212 [.ref 40, .int 0] (ab_G (ab_ui (ab_ui mi1 40 55 0) 40 56 (-1)) ml2) (some (.int r5)) (ab_G mi3 ml4) ∧ (((r5 = 0) → (Q none (ab_G mi3 ml4))) ∧ (¬ (r5 = 0) → (ab_W call ro 0 0 (ab_lk2 pl_X12_findLeast) Q (25, [some (.ref 40), some (.int x1), some (.int x2), some (.int 0), none, none, none], [], 0, 0, (ab_G mi3 ml4))))))) :
    ab_W call ro 0 0 (ab_lk2 pl_X12_findLeast) Q (0, [some (.ref 40), some (.int x1), some (.int x2), none, none, none, none], [], 0, 0, ab_G mi ml) := by
  obtain ⟨mi1, ml2, hc, h⟩ := h
  refine ab_wc 2 (c := 198) (as := [.ref 40]) (pc := 4) (ll := [some (.ref 40), some (.int x1), some (.int x2), none, none, none, none]) (st := []) (c1 := 0) (s1 := 0) (g := (ab_G mi ml)) rfl ⟨trivial, trivial⟩ hc ?_
  obtain ⟨r5, mi3, ml4, hc, h⟩ := h
  refine ab_wc 9 (c := 212) (as := [.ref 40, .int 0]) (pc := 19) (ll := [some (.ref 40), some (.int x1), some (.int x2), none, none, none, none]) (st := []) (c1 := 0) (s1 := 0) (g := (ab_G (ab_ui (ab_ui mi1 40 55 0) 40 56 (-1)) ml2)) rfl ⟨trivial, trivial, trivial, trivial, trivial, trivial, trivial, trivial, trivial⟩ hc ?_
  refine ab_wk 1 (f' := (if r5 = 0 then 22 else 23, [some (.ref 40), some (.int x1), some (.int x2), none, none, none, none], [], 0, 0, (ab_G mi3 ml4))) rfl ⟨trivial, trivial⟩ ?_
  refine ab_wi (fun c => ?_) (fun c => ?_)
  · have h := h.1 c
    exact ab_wr 1 rfl trivial h
  · have h := h.2 c
    exact ab_wk 2 (f' := (25, [some (.ref 40), some (.int x1), some (.int x2), some (.int 0), none, none, none], [], 0, 0, (ab_G mi3 ml4))) rfl ⟨trivial, trivial, trivial⟩ h
theorem vc_X12_findLeast_25 {call : Nat → List Value → ab_S → Option Value → ab_S → Prop} {ro : ab_E} {Q : Option Value → ab_S → Prop} (y1 : Int32) (y2 : Int32) (y3 : Int32) (mi : Nat → Nat → Int32) (ml : Nat → Nat → Int64)
    (h : ((y3 < (mi 40 45)) → (∃ (r8 : Int32) (mi6 : Nat → Nat → Int32) (ml7 : Nat → Nat → Int64), call 212 [.ref 40, .int ((1 : Int32) <<< (y3 &&& 31))] (ab_G mi ml) (some (.int r8)) (ab_G mi6 ml7) ∧ (vp_in y3 30 ∧ (((y1 = 1) → (vp_in y3 30 ∧ (((((ab_ui mi6 75 (y3).toNatClampNeg (vp_nar .boolean r8)) 75 (y3).toNatClampNeg) = 0) → (∃ (mi9 : Nat → Nat → Int32) (ml10 : Nat → Nat → Int64), call 218 [.ref 40, .int ((1 : Int32) <<< (y3 &&& 31)), .int y2] (ab_G (ab_ui mi6 75 (y3).toNatClampNeg (vp_nar .boolean r8)) ml7) none (ab_G mi9 ml10) ∧ (ab_W call ro 0 0 (ab_lk2 pl_X12_findLeast) Q (25, [some (.ref 40), some (.int y1), some (.int y2), some (.int (y3 + 1)), none, none, none], [], 0, 0, (ab_G mi9 ml10))))) ∧ (¬ (((ab_ui mi6 75 (y3).toNatClampNeg (vp_nar .boolean r8)) 75 (y3).toNatClampNeg) = 0) → (ab_W call ro 0 0 (ab_lk2 pl_X12_findLeast) Q (25, [some (.ref 40), some (.int y1), some (.int y2), some (.int (y3 + 1)), none, none, none], [], 0, 0, (ab_G (ab_ui mi6 75 (y3).toNatClampNeg (vp_nar .boolean r8)) ml7))))))) ∧ (¬ (y1 = 1) → (ab_W call ro 0 0 (ab_lk2 pl_X12_findLeast) Q (25, [some (.ref 40), some (.int y1), some (.int y2), some (.int (y3 + 1)), none, none, none], [], 0, 0, (ab_G (ab_ui mi6 75 (y3).toNatClampNeg (vp_nar .boolean r8)) ml7)))))))) ∧ (¬ (y3 < (mi 40 45)) → (ab_W call ro 0 0 (ab_lk2 pl_X12_findLeast) Q (76, [some (.ref 40), some (.int y1), some (.int y2), some (.int 0), none, none, none], [], 0, 0, (ab_G mi ml))))) :
    ab_W call ro 0 0 (ab_lk2 pl_X12_findLeast) Q (25, [some (.ref 40), some (.int y1), some (.int y2), some (.int y3), none, none, none], [], 0, 0, ab_G mi ml) := by
  refine ab_wk 4 (f' := (if y3 < (mi 40 45) then 33 else 74, [some (.ref 40), some (.int y1), some (.int y2), some (.int y3), none, none, none], [], 0, 0, (ab_G mi ml))) rfl ⟨trivial, trivial, trivial, trivial, trivial⟩ ?_
  refine ab_wi (fun c => ?_) (fun c => ?_)
  · have h := h.1 c
    obtain ⟨r8, mi6, ml7, hc, h⟩ := h
    refine ab_wc 8 (c := 212) (as := [.ref 40, .int ((1 : Int32) <<< (y3 &&& 31))]) (pc := 45) (ll := [some (.ref 40), some (.int y1), some (.int y2), some (.int y3), none, none, none]) (st := [.int y3, .ref 75]) (c1 := 0) (s1 := 0) (g := (ab_G mi ml)) rfl ⟨trivial, trivial, trivial, trivial, trivial, trivial, trivial, trivial⟩ hc ?_
    obtain ⟨p0, h⟩ := h
    refine ab_wk 4 (f' := (if y1 = 1 then 51 else 68, [some (.ref 40), some (.int y1), some (.int y2), some (.int y3), none, none, none], [], 0, 0, (ab_G (ab_ui mi6 75 (y3).toNatClampNeg (vp_nar .boolean r8)) ml7))) rfl ⟨p0, trivial, trivial, trivial, trivial⟩ ?_
    refine ab_wi (fun c => ?_) (fun c => ?_)
    · have h := h.1 c
      obtain ⟨p0, h⟩ := h
      refine ab_wk 5 (f' := (if ((ab_ui mi6 75 (y3).toNatClampNeg (vp_nar .boolean r8)) 75 (y3).toNatClampNeg) = 0 then 60 else 68, [some (.ref 40), some (.int y1), some (.int y2), some (.int y3), none, none, none], [], 0, 0, (ab_G (ab_ui mi6 75 (y3).toNatClampNeg (vp_nar .boolean r8)) ml7))) rfl ⟨trivial, trivial, trivial, p0, trivial, trivial⟩ ?_
      refine ab_wi (fun c => ?_) (fun c => ?_)
      · have h := h.1 c
        obtain ⟨mi9, ml10, hc, h⟩ := h
        refine ab_wc 6 (c := 218) (as := [.ref 40, .int ((1 : Int32) <<< (y3 &&& 31)), .int y2]) (pc := 68) (ll := [some (.ref 40), some (.int y1), some (.int y2), some (.int y3), none, none, none]) (st := []) (c1 := 0) (s1 := 0) (g := (ab_G (ab_ui mi6 75 (y3).toNatClampNeg (vp_nar .boolean r8)) ml7)) rfl ⟨trivial, trivial, trivial, trivial, trivial, trivial⟩ hc ?_
        exact ab_wk 2 (f' := (25, [some (.ref 40), some (.int y1), some (.int y2), some (.int (y3 + 1)), none, none, none], [], 0, 0, (ab_G mi9 ml10))) rfl ⟨trivial, trivial, trivial⟩ h
      · have h := h.2 c
        exact ab_wk 2 (f' := (25, [some (.ref 40), some (.int y1), some (.int y2), some (.int (y3 + 1)), none, none, none], [], 0, 0, (ab_G (ab_ui mi6 75 (y3).toNatClampNeg (vp_nar .boolean r8)) ml7))) rfl ⟨trivial, trivial, trivial⟩ h
    · have h := h.2 c
      exact ab_wk 2 (f' := (25, [some (.ref 40), some (.int y1), some (.int y2), some (.int (y3 + 1)), none, none, none], [], 0, 0, (ab_G (ab_ui mi6 75 (y3).toNatClampNeg (vp_nar .boolean r8)) ml7))) rfl ⟨trivial, trivial, trivial⟩ h
  · have h := h.2 c
    exact ab_wk 2 (f' := (76, [some (.ref 40), some (.int y1), some (.int y2), some (.int 0), none, none, none], [], 0, 0, (ab_G mi ml))) rfl ⟨trivial, trivial, trivial⟩ h
theorem vc_X12_findLeast_76 {call : Nat → List Value → ab_S → Option Value → ab_S → Prop} {ro : ab_E} {Q : Option Value → ab_S → Prop} (y1 : Int32) (y2 : Int32) (y3 : Int32) (mi : Nat → Nat → Int32) (ml : Nat → Nat → Int64)
    (h : ((y3 < (mi 40 45)) → (((1 < y1) → (ab_W call ro 0 0 (ab_lk2 pl_X12_findLeast) Q (94, [some (.ref 40), some (.int y1), some (.int y2), some (.int y3), some (.int (y3 + 1)), none, none], [], 0, 0, (ab_G mi ml)))) ∧ (¬ (1 < y1) → (ab_W call ro 0 0 (ab_lk2 pl_X12_findLeast) Q (220, [some (.ref 40), some (.int y1), some (.int y2), some (.int 0), none, none, none], [], 0, 0, (ab_G mi ml)))))) ∧ (¬ (y3 < (mi 40 45)) → (ab_W call ro 0 0 (ab_lk2 pl_X12_findLeast) Q (220, [some (.ref 40), some (.int y1), some (.int y2), some (.int 0), none, none, none], [], 0, 0, (ab_G mi ml))))) :
    ab_W call ro 0 0 (ab_lk2 pl_X12_findLeast) Q (76, [some (.ref 40), some (.int y1), some (.int y2), some (.int y3), none, none, none], [], 0, 0, ab_G mi ml) := by
  refine ab_wk 4 (f' := (if y3 < (mi 40 45) then 84 else 218, [some (.ref 40), some (.int y1), some (.int y2), some (.int y3), none, none, none], [], 0, 0, (ab_G mi ml))) rfl ⟨trivial, trivial, trivial, trivial, trivial⟩ ?_
  refine ab_wi (fun c => ?_) (fun c => ?_)
  · have h := h.1 c
    refine ab_wk 3 (f' := (if 1 < y1 then 89 else 218, [some (.ref 40), some (.int y1), some (.int y2), some (.int y3), none, none, none], [], 0, 0, (ab_G mi ml))) rfl ⟨trivial, trivial, trivial, trivial⟩ ?_
    refine ab_wi (fun c => ?_) (fun c => ?_)
    · have h := h.1 c
      exact ab_wk 4 (f' := (94, [some (.ref 40), some (.int y1), some (.int y2), some (.int y3), some (.int (y3 + 1)), none, none], [], 0, 0, (ab_G mi ml))) rfl ⟨trivial, trivial, trivial, trivial, trivial⟩ h
    · have h := h.2 c
      exact ab_wk 2 (f' := (220, [some (.ref 40), some (.int y1), some (.int y2), some (.int 0), none, none, none], [], 0, 0, (ab_G mi ml))) rfl ⟨trivial, trivial, trivial⟩ h
  · have h := h.2 c
    exact ab_wk 2 (f' := (220, [some (.ref 40), some (.int y1), some (.int y2), some (.int 0), none, none, none], [], 0, 0, (ab_G mi ml))) rfl ⟨trivial, trivial, trivial⟩ h
theorem vc_X12_findLeast_220 {call : Nat → List Value → ab_S → Option Value → ab_S → Prop} {ro : ab_E} {Q : Option Value → ab_S → Prop} (y1 : Int32) (y2 : Int32) (y3 : Int32) (mi : Nat → Nat → Int32) (ml : Nat → Nat → Int64)
    (h : ((y3 < (mi 40 45)) → (((2 < y1) → (ab_W call ro 0 0 (ab_lk2 pl_X12_findLeast) Q (238, [some (.ref 40), some (.int y1), some (.int y2), some (.int y3), some (.int (y3 + 1)), none, none], [], 0, 0, (ab_G mi ml)))) ∧ (¬ (2 < y1) → (Q none (ab_G mi ml))))) ∧ (¬ (y3 < (mi 40 45)) → (Q none (ab_G mi ml)))) :
    ab_W call ro 0 0 (ab_lk2 pl_X12_findLeast) Q (220, [some (.ref 40), some (.int y1), some (.int y2), some (.int y3), none, none, none], [], 0, 0, ab_G mi ml) := by
  refine ab_wk 4 (f' := (if y3 < (mi 40 45) then 228 else 376, [some (.ref 40), some (.int y1), some (.int y2), some (.int y3), none, none, none], [], 0, 0, (ab_G mi ml))) rfl ⟨trivial, trivial, trivial, trivial, trivial⟩ ?_
  refine ab_wi (fun c => ?_) (fun c => ?_)
  · have h := h.1 c
    refine ab_wk 3 (f' := (if 2 < y1 then 233 else 376, [some (.ref 40), some (.int y1), some (.int y2), some (.int y3), none, none, none], [], 0, 0, (ab_G mi ml))) rfl ⟨trivial, trivial, trivial, trivial⟩ ?_
    refine ab_wi (fun c => ?_) (fun c => ?_)
    · have h := h.1 c
      exact ab_wk 4 (f' := (238, [some (.ref 40), some (.int y1), some (.int y2), some (.int y3), some (.int (y3 + 1)), none, none], [], 0, 0, (ab_G mi ml))) rfl ⟨trivial, trivial, trivial, trivial, trivial⟩ h
    · have h := h.2 c
      exact ab_wr 1 rfl trivial h
  · have h := h.2 c
    exact ab_wr 1 rfl trivial h
theorem vc_X12_findLeast_238 {call : Nat → List Value → ab_S → Option Value → ab_S → Prop} {ro : ab_E} {Q : Option Value → ab_S → Prop} (y1 : Int32) (y2 : Int32) (y3 : Int32) (y4 : Int32) (mi : Nat → Nat → Int32) (ml : Nat → Nat → Int64)
    (h : ((y4 < (mi 40 45)) → (ab_W call ro 0 0 (ab_lk2 pl_X12_findLeast) Q (253, [some (.ref 40), some (.int y1), some (.int y2), some (.int y3), some (.int y4), some (.int (y4 + 1)), none], [], 0, 0, (ab_G mi ml)))) ∧ (¬ (y4 < (mi 40 45)) → (ab_W call ro 0 0 (ab_lk2 pl_X12_findLeast) Q (220, [some (.ref 40), some (.int y1), some (.int y2), some (.int (y3 + 1)), none, none, none], [], 0, 0, (ab_G mi ml))))) :
    ab_W call ro 0 0 (ab_lk2 pl_X12_findLeast) Q (238, [some (.ref 40), some (.int y1), some (.int y2), some (.int y3), some (.int y4), none, none], [], 0, 0, ab_G mi ml) := by
  refine ab_wk 4 (f' := (if y4 < (mi 40 45) then 247 else 370, [some (.ref 40), some (.int y1), some (.int y2), some (.int y3), some (.int y4), none, none], [], 0, 0, (ab_G mi ml))) rfl ⟨trivial, trivial, trivial, trivial, trivial⟩ ?_
  refine ab_wi (fun c => ?_) (fun c => ?_)
  · have h := h.1 c
    exact ab_wk 4 (f' := (253, [some (.ref 40), some (.int y1), some (.int y2), some (.int y3), some (.int y4), some (.int (y4 + 1)), none], [], 0, 0, (ab_G mi ml))) rfl ⟨trivial, trivial, trivial, trivial, trivial⟩ h
  · have h := h.2 c
    exact ab_wk 2 (f' := (220, [some (.ref 40), some (.int y1), some (.int y2), some (.int (y3 + 1)), some (.int y4), none, none], [], 0, 0, (ab_G mi ml))) rfl ⟨trivial, trivial, trivial⟩ (ab_drop h (ab_lrc _ (ab_lrc _ (ab_lrc _ (ab_lrc _ (ab_lrn _ (ab_lrc _ (ab_lrc _ ab_lr0))))))))
theorem vc_X12_findLeast_253 {call : Nat → List Value → ab_S → Option Value → ab_S → Prop} {ro : ab_E} {Q : Option Value → ab_S → Prop} (y1 : Int32) (y2 : Int32) (y3 : Int32) (y4 : Int32) (y5 : Int32) (mi : Nat → Nat → Int32) (ml : Nat → Nat → Int64)
    (h : ((y5 < (mi 40 45)) → (vp_in (((30 : Int32) * y3) + y4) 900 ∧ ((((mi 76 ((((30 : Int32) * y3) + y4)).toNatClampNeg) = 0) → (ab_W call ro 0 0 (ab_lk2 pl_X12_findLeast) Q (238, [some (.ref 40), some (.int y1), some (.int y2), some (.int y3), some (.int (y4 + 1)), none, none], [], 0, 0, (ab_G mi ml)))) ∧ (¬ ((mi 76 ((((30 : Int32) * y3) + y4)).toNatClampNeg) = 0) → (vp_in (((30 : Int32) * y3) + y5) 900 ∧ ((((mi 76 ((((30 : Int32) * y3) + y5)).toNatClampNeg) = 0) → (ab_W call ro 0 0 (ab_lk2 pl_X12_findLeast) Q (253, [some (.ref 40), some (.int y1), some (.int y2), some (.int y3), some (.int y4), some (.int (y5 + 1)), none], [], 0, 0, (ab_G mi ml)))) ∧ (¬ ((mi 76 ((((30 : Int32) * y3) + y5)).toNatClampNeg) = 0) → (vp_in (((30 : Int32) * y4) + y5) 900 ∧ ((((mi 76 ((((30 : Int32) * y4) + y5)).toNatClampNeg) = 0) → (ab_W call ro 0 0 (ab_lk2 pl_X12_findLeast) Q (253, [some (.ref 40), some (.int y1), some (.int y2), some (.int y3), some (.int y4), some (.int (y5 + 1)), none], [], 0, 0, (ab_G mi ml)))) ∧ (¬ ((mi 76 ((((30 : Int32) * y4) + y5)).toNatClampNeg) = 0) → (∃ (r13 : Int32) (mi11 : Nat → Nat → Int32) (ml12 : Nat → Nat → Int64), call 212 [.ref 40, .int ((((1 : Int32) <<< (y3 &&& 31)) ||| ((1 : Int32) <<< (y4 &&& 31))) ||| ((1 : Int32) <<< (y5 &&& 31)))] (ab_G mi ml) (some (.int r13)) (ab_G mi11 ml12) ∧ (((r13 = 0) → (∃ (mi14 : Nat → Nat → Int32) (ml15 : Nat → Nat → Int64), call 218 [.ref 40, .int ((((1 : Int32) <<< (y3 &&& 31)) ||| ((1 : Int32) <<< (y4 &&& 31))) ||| ((1 : Int32) <<< (y5 &&& 31))), .int y2] (ab_G mi11 ml12) none (ab_G mi14 ml15) ∧ (ab_W call ro 0 0 (ab_lk2 pl_X12_findLeast) Q (253, [some (.ref 40), some (.int y1), some (.int y2), some (.int y3), some (.int y4), some (.int (y5 + 1)), none], [], 0, 0, (ab_G mi14 ml15))))) ∧ (¬ (r13 = 0) → (ab_W call ro 0 0 (ab_lk2 pl_X12_findLeast) Q (253, [some (.ref 40), some (.int y1), some (.int y2), some (.int y3), some (.int y4), some (.int (y5 + 1)), none], [], 0, 0, (ab_G mi11 ml12)))))))))))))))) ∧ (¬ (y5 < (mi 40 45)) → (ab_W call ro 0 0 (ab_lk2 pl_X12_findLeast) Q (238, [some (.ref 40), some (.int y1), some (.int y2), some (.int y3), some (.int (y4 + 1)), none, none], [], 0, 0, (ab_G mi ml))))) :
    ab_W call ro 0 0 (ab_lk2 pl_X12_findLeast) Q (253, [some (.ref 40), some (.int y1), some (.int y2), some (.int y3), some (.int y4), some (.int y5), none], [], 0, 0, ab_G mi ml) := by
  refine ab_wk 4 (f' := (if y5 < (mi 40 45) then 262 else 364, [some (.ref 40), some (.int y1), some (.int y2), some (.int y3), some (.int y4), some (.int y5), none], [], 0, 0, (ab_G mi ml))) rfl ⟨trivial, trivial, trivial, trivial, trivial⟩ ?_
  refine ab_wi (fun c => ?_) (fun c => ?_)
  · have h := h.1 c
    obtain ⟨p0, h⟩ := h
    refine ab_wk 9 (f' := (if (mi 76 ((((30 : Int32) * y3) + y4)).toNatClampNeg) = 0 then 364 else 277, [some (.ref 40), some (.int y1), some (.int y2), some (.int y3), some (.int y4), some (.int y5), none], [], 0, 0, (ab_G mi ml))) rfl ⟨trivial, trivial, trivial, trivial, trivial, trivial, trivial, p0, trivial, trivial⟩ ?_
    refine ab_wi (fun c => ?_) (fun c => ?_)
    · have h := h.1 c
      exact ab_wk 2 (f' := (238, [some (.ref 40), some (.int y1), some (.int y2), some (.int y3), some (.int (y4 + 1)), some (.int y5), none], [], 0, 0, (ab_G mi ml))) rfl ⟨trivial, trivial, trivial⟩ (ab_drop h (ab_lrc _ (ab_lrc _ (ab_lrc _ (ab_lrc _ (ab_lrc _ (ab_lrn _ (ab_lrc _ ab_lr0))))))))
    · have h := h.2 c
      obtain ⟨p0, h⟩ := h
      refine ab_wk 9 (f' := (if (mi 76 ((((30 : Int32) * y3) + y5)).toNatClampNeg) = 0 then 312 else 292, [some (.ref 40), some (.int y1), some (.int y2), some (.int y3), some (.int y4), some (.int y5), none], [], 0, 0, (ab_G mi ml))) rfl ⟨trivial, trivial, trivial, trivial, trivial, trivial, trivial, p0, trivial, trivial⟩ ?_
      refine ab_wi (fun c => ?_) (fun c => ?_)
      · have h := h.1 c
        refine ab_wk 4 (f' := (if (0 : Int32) = 0 then 358 else 320, [some (.ref 40), some (.int y1), some (.int y2), some (.int y3), some (.int y4), some (.int y5), some (.int 0)], [], 0, 0, (ab_G mi ml))) rfl ⟨trivial, trivial, trivial, trivial, trivial⟩ ?_
        refine ab_wit (c := ((0 : Int32) = 0)) (by decide) ?_
        exact ab_wk 2 (f' := (253, [some (.ref 40), some (.int y1), some (.int y2), some (.int y3), some (.int y4), some (.int (y5 + 1)), some (.int 0)], [], 0, 0, (ab_G mi ml))) rfl ⟨trivial, trivial, trivial⟩ (ab_drop h (ab_lrc _ (ab_lrc _ (ab_lrc _ (ab_lrc _ (ab_lrc _ (ab_lrc _ (ab_lrn _ ab_lr0))))))))
      · have h := h.2 c
        obtain ⟨p0, h⟩ := h
        refine ab_wk 9 (f' := (if (mi 76 ((((30 : Int32) * y4) + y5)).toNatClampNeg) = 0 then 312 else 308, [some (.ref 40), some (.int y1), some (.int y2), some (.int y3), some (.int y4), some (.int y5), none], [], 0, 0, (ab_G mi ml))) rfl ⟨trivial, trivial, trivial, trivial, trivial, trivial, trivial, p0, trivial, trivial⟩ ?_
        refine ab_wi (fun c => ?_) (fun c => ?_)
        · have h := h.1 c
          refine ab_wk 4 (f' := (if (0 : Int32) = 0 then 358 else 320, [some (.ref 40), some (.int y1), some (.int y2), some (.int y3), some (.int y4), some (.int y5), some (.int 0)], [], 0, 0, (ab_G mi ml))) rfl ⟨trivial, trivial, trivial, trivial, trivial⟩ ?_
          refine ab_wit (c := ((0 : Int32) = 0)) (by decide) ?_
          exact ab_wk 2 (f' := (253, [some (.ref 40), some (.int y1), some (.int y2), some (.int y3), some (.int y4), some (.int (y5 + 1)), some (.int 0)], [], 0, 0, (ab_G mi ml))) rfl ⟨trivial, trivial, trivial⟩ (ab_drop h (ab_lrc _ (ab_lrc _ (ab_lrc _ (ab_lrc _ (ab_lrc _ (ab_lrc _ (ab_lrn _ ab_lr0))))))))
        · have h := h.2 c
          refine ab_wk 5 (f' := (if (1 : Int32) = 0 then 358 else 320, [some (.ref 40), some (.int y1), some (.int y2), some (.int y3), some (.int y4), some (.int y5), some (.int 1)], [], 0, 0, (ab_G mi ml))) rfl ⟨trivial, trivial, trivial, trivial, trivial, trivial⟩ ?_
          refine ab_wif (c := ((1 : Int32) = 0)) (by decide) ?_
          obtain ⟨r13, mi11, ml12, hc, h⟩ := h
          refine ab_wc 13 (c := 212) (as := [.ref 40, .int ((((1 : Int32) <<< (y3 &&& 31)) ||| ((1 : Int32) <<< (y4 &&& 31))) ||| ((1 : Int32) <<< (y5 &&& 31)))]) (pc := 337) (ll := [some (.ref 40), some (.int y1), some (.int y2), some (.int y3), some (.int y4), some (.int y5), some (.int 1)]) (st := []) (c1 := 0) (s1 := 0) (g := (ab_G mi ml)) rfl ⟨trivial, trivial, trivial, trivial, trivial, trivial, trivial, trivial, trivial, trivial, trivial, trivial, trivial⟩ hc ?_
          refine ab_wk 1 (f' := (if r13 = 0 then 340 else 358, [some (.ref 40), some (.int y1), some (.int y2), some (.int y3), some (.int y4), some (.int y5), some (.int 1)], [], 0, 0, (ab_G mi11 ml12))) rfl ⟨trivial, trivial⟩ ?_
          refine ab_wi (fun c => ?_) (fun c => ?_)
          · have h := h.1 c
            obtain ⟨mi14, ml15, hc, h⟩ := h
            refine ab_wc 14 (c := 218) (as := [.ref 40, .int ((((1 : Int32) <<< (y3 &&& 31)) ||| ((1 : Int32) <<< (y4 &&& 31))) ||| ((1 : Int32) <<< (y5 &&& 31))), .int y2]) (pc := 358) (ll := [some (.ref 40), some (.int y1), some (.int y2), some (.int y3), some (.int y4), some (.int y5), some (.int 1)]) (st := []) (c1 := 0) (s1 := 0) (g := (ab_G mi11 ml12)) rfl ⟨trivial, trivial, trivial, trivial, trivial, trivial, trivial, trivial, trivial, trivial, trivial, trivial, trivial, trivial⟩ hc ?_
            exact ab_wk 2 (f' := (253, [some (.ref 40), some (.int y1), some (.int y2), some (.int y3), some (.int y4), some (.int (y5 + 1)), some (.int 1)], [], 0, 0, (ab_G mi14 ml15))) rfl ⟨trivial, trivial, trivial⟩ (ab_drop h (ab_lrc _ (ab_lrc _ (ab_lrc _ (ab_lrc _ (ab_lrc _ (ab_lrc _ (ab_lrn _ ab_lr0))))))))
          · have h := h.2 c
            exact ab_wk 2 (f' := (253, [some (.ref 40), some (.int y1), some (.int y2), some (.int y3), some (.int y4), some (.int (y5 + 1)), some (.int 1)], [], 0, 0, (ab_G mi11 ml12))) rfl ⟨trivial, trivial, trivial⟩ (ab_drop h (ab_lrc _ (ab_lrc _ (ab_lrc _ (ab_lrc _ (ab_lrc _ (ab_lrc _ (ab_lrn _ ab_lr0))))))))
  · have h := h.2 c
    exact ab_wk 2 (f' := (238, [some (.ref 40), some (.int y1), some (.int y2), some (.int y3), some (.int (y4 + 1)), some (.int y5), none], [], 0, 0, (ab_G mi ml))) rfl ⟨trivial, trivial, trivial⟩ (ab_drop h (ab_lrc _ (ab_lrc _ (ab_lrc _ (ab_lrc _ (ab_lrc _ (ab_lrn _ (ab_lrc _ ab_lr0))))))))
theorem vc_X12_findLeast_94 {call : Nat → List Value → ab_S → Option Value → ab_S → Prop} {ro : ab_E} {Q : Option Value → ab_S → Prop} (y1 : Int32) (y2 : Int32) (y3 : Int32) (y4 : Int32) (mi : Nat → Nat → Int32) (ml : Nat → Nat → Int64)
    (h : ((y4 < (mi 40 45)) → (vp_in y3 30 ∧ ((((mi 75 (y3).toNatClampNeg) = 0) → (vp_in (((30 : Int32) * y3) + y4) 900 ∧ (((y1 = 2) → (vp_in y3 30 ∧ ((((mi 75 (y3).toNatClampNeg) = 0) → (ab_W call ro 0 0 (ab_lk2 pl_X12_findLeast) Q (94, [some (.ref 40), some (.int y1), some (.int y2), some (.int y3), some (.int (y4 + 1)), none, none], [], 0, 0, (ab_G (ab_ui mi 76 ((((30 : Int32) * y3) + y4)).toNatClampNeg (vp_nar .boolean 0)) ml)))) ∧ (¬ ((mi 75 (y3).toNatClampNeg) = 0) → (vp_in y4 30 ∧ ((((mi 75 (y4).toNatClampNeg) = 0) → (ab_W call ro 0 0 (ab_lk2 pl_X12_findLeast) Q (94, [some (.ref 40), some (.int y1), some (.int y2), some (.int y3), some (.int (y4 + 1)), none, none], [], 0, 0, (ab_G (ab_ui mi 76 ((((30 : Int32) * y3) + y4)).toNatClampNeg (vp_nar .boolean 0)) ml)))) ∧ (¬ ((mi 75 (y4).toNatClampNeg) = 0) → (vp_in (((30 : Int32) * y3) + y4) 900 ∧ (((((ab_ui mi 76 ((((30 : Int32) * y3) + y4)).toNatClampNeg (vp_nar .boolean 0)) 76 ((((30 : Int32) * y3) + y4)).toNatClampNeg) = 0) → (∃ (mi16 : Nat → Nat → Int32) (ml17 : Nat → Nat → Int64), call 218 [.ref 40, .int (((1 : Int32) <<< (y3 &&& 31)) ||| ((1 : Int32) <<< (y4 &&& 31))), .int y2] (ab_G (ab_ui mi 76 ((((30 : Int32) * y3) + y4)).toNatClampNeg (vp_nar .boolean 0)) ml) none (ab_G mi16 ml17) ∧ (ab_W call ro 0 0 (ab_lk2 pl_X12_findLeast) Q (94, [some (.ref 40), some (.int y1), some (.int y2), some (.int y3), some (.int (y4 + 1)), none, none], [], 0, 0, (ab_G mi16 ml17))))) ∧ (¬ (((ab_ui mi 76 ((((30 : Int32) * y3) + y4)).toNatClampNeg (vp_nar .boolean 0)) 76 ((((30 : Int32) * y3) + y4)).toNatClampNeg) = 0) → (ab_W call ro 0 0 (ab_lk2 pl_X12_findLeast) Q (94, [some (.ref 40), some (.int y1), some (.int y2), some (.int y3), some (.int (y4 + 1)), none, none], [], 0, 0, (ab_G (ab_ui mi 76 ((((30 : Int32) * y3) + y4)).toNatClampNeg (vp_nar .boolean 0)) ml))))))))))))) ∧ (¬ (y1 = 2) → (ab_W call ro 0 0 (ab_lk2 pl_X12_findLeast) Q (94, [some (.ref 40), some (.int y1), some (.int y2), some (.int y3), some (.int (y4 + 1)), none, none], [], 0, 0, (ab_G (ab_ui mi 76 ((((30 : Int32) * y3) + y4)).toNatClampNeg (vp_nar .boolean 0)) ml))))))) ∧ (¬ ((mi 75 (y3).toNatClampNeg) = 0) → (vp_in y4 30 ∧ ((((mi 75 (y4).toNatClampNeg) = 0) → (vp_in (((30 : Int32) * y3) + y4) 900 ∧ (((y1 = 2) → (vp_in y3 30 ∧ ((((mi 75 (y3).toNatClampNeg) = 0) → (ab_W call ro 0 0 (ab_lk2 pl_X12_findLeast) Q (94, [some (.ref 40), some (.int y1), some (.int y2), some (.int y3), some (.int (y4 + 1)), none, none], [], 0, 0, (ab_G (ab_ui mi 76 ((((30 : Int32) * y3) + y4)).toNatClampNeg (vp_nar .boolean 0)) ml)))) ∧ (¬ ((mi 75 (y3).toNatClampNeg) = 0) → (vp_in y4 30 ∧ ((((mi 75 (y4).toNatClampNeg) = 0) → (ab_W call ro 0 0 (ab_lk2 pl_X12_findLeast) Q (94, [some (.ref 40), some (.int y1), some (.int y2), some (.int y3), some (.int (y4 + 1)), none, none], [], 0, 0, (ab_G (ab_ui mi 76 ((((30 : Int32) * y3) + y4)).toNatClampNeg (vp_nar .boolean 0)) ml)))) ∧ (¬ ((mi 75 (y4).toNatClampNeg) = 0) → (vp_in (((30 : Int32) * y3) + y4) 900 ∧ (((((ab_ui mi 76 ((((30 : Int32) * y3) + y4)).toNatClampNeg (vp_nar .boolean 0)) 76 ((((30 : Int32) * y3) + y4)).toNatClampNeg) = 0) → (∃ (mi18 : Nat → Nat → Int32) (ml19 : Nat → Nat → Int64), call 218 [.ref 40, .int (((1 : Int32) <<< (y3 &&& 31)) ||| ((1 : Int32) <<< (y4 &&& 31))), .int y2] (ab_G (ab_ui mi 76 ((((30 : Int32) * y3) + y4)).toNatClampNeg (vp_nar .boolean 0)) ml) none (ab_G mi18 ml19) ∧ (ab_W call ro 0 0 (ab_lk2 pl_X12_findLeast) Q (94, [some (.ref 40), some (.int y1), some (.int y2), some (.int y3), some (.int (y4 + 1)), none, none], [], 0, 0, (ab_G mi18 ml19))))) ∧ (¬ (((ab_ui mi 76 ((((30 : Int32) * y3) + y4)).toNatClampNeg (vp_nar .boolean 0)) 76 ((((30 : Int32) * y3) + y4)).toNatClampNeg) = 0) → (ab_W call ro 0 0 (ab_lk2 pl_X12_findLeast) Q (94, [some (.ref 40), some (.int y1), some (.int y2), some (.int y3), some (.int (y4 + 1)), none, none], [], 0, 0, (ab_G (ab_ui mi 76 ((((30 : Int32) * y3) + y4)).toNatClampNeg (vp_nar .boolean 0)) ml))))))))))))) ∧ (¬ (y1 = 2) → (ab_W call ro 0 0 (ab_lk2 pl_X12_findLeast) Q (94, [some (.ref 40), some (.int y1), some (.int y2), some (.int y3), some (.int (y4 + 1)), none, none], [], 0, 0, (ab_G (ab_ui mi 76 ((((30 : Int32) * y3) + y4)).toNatClampNeg (vp_nar .boolean 0)) ml))))))) ∧ (¬ ((mi 75 (y4).toNatClampNeg) = 0) → (∃ (r22 : Int32) (mi20 : Nat → Nat → Int32) (ml21 : Nat → Nat → Int64), call 212 [.ref 40, .int (((1 : Int32) <<< (y3 &&& 31)) ||| ((1 : Int32) <<< (y4 &&& 31)))] (ab_G mi ml) (some (.int r22)) (ab_G mi20 ml21) ∧ (((r22 = 0) → (vp_in (((30 : Int32) * y3) + y4) 900 ∧ (((y1 = 2) → (vp_in y3 30 ∧ ((((mi20 75 (y3).toNatClampNeg) = 0) → (ab_W call ro 0 0 (ab_lk2 pl_X12_findLeast) Q (94, [some (.ref 40), some (.int y1), some (.int y2), some (.int y3), some (.int (y4 + 1)), none, none], [], 0, 0, (ab_G (ab_ui mi20 76 ((((30 : Int32) * y3) + y4)).toNatClampNeg (vp_nar .boolean 0)) ml21)))) ∧ (¬ ((mi20 75 (y3).toNatClampNeg) = 0) → (vp_in y4 30 ∧ ((((mi20 75 (y4).toNatClampNeg) = 0) → (ab_W call ro 0 0 (ab_lk2 pl_X12_findLeast) Q (94, [some (.ref 40), some (.int y1), some (.int y2), some (.int y3), some (.int (y4 + 1)), none, none], [], 0, 0, (ab_G (ab_ui mi20 76 ((((30 : Int32) * y3) + y4)).toNatClampNeg (vp_nar .boolean 0)) ml21)))) ∧ (¬ ((mi20 75 (y4).toNatClampNeg) = 0) → (vp_in (((30 : Int32) * y3) + y4) 900 ∧ (((((ab_ui mi20 76 ((((30 : Int32) * y3) + y4)).toNatClampNeg (vp_nar .boolean 0)) 76 ((((30 : Int32) * y3) + y4)).toNatClampNeg) = 0) → (∃ (mi23 : Nat → Nat → Int32) (ml24 : Nat → Nat → Int64), call 218 [.ref 40, .int (((1 : Int32) <<< (y3 &&& 31)) ||| ((1 : Int32) <<< (y4 &&& 31))), .int y2] (ab_G (ab_ui mi20 76 ((((30 : Int32) * y3) + y4)).toNatClampNeg (vp_nar .boolean 0)) ml21) none (ab_G mi23 ml24) ∧ (ab_W call ro 0 0 (ab_lk2 pl_X12_findLeast) Q (94, [some (.ref 40), some (.int y1), some (.int y2), some (.int y3), some (.int (y4 + 1)), none, none], [], 0, 0, (ab_G mi23 ml24))))) ∧ (¬ (((ab_ui mi20 76 ((((30 : Int32) * y3) + y4)).toNatClampNeg (vp_nar .boolean 0)) 76 ((((30 : Int32) * y3) + y4)).toNatClampNeg) = 0) → (ab_W call ro 0 0 (ab_lk2 pl_X12_findLeast) Q (94, [some (.ref 40), some (.int y1), some (.int y2), some (.int y3), some (.int (y4 + 1)), none, none], [], 0, 0, (ab_G (ab_ui mi20 76 ((((30 : Int32) * y3) + y4)).toNatClampNeg (vp_nar .boolean 0)) ml21))))))))))))) ∧ (¬ (y1 = 2) → (ab_W call ro 0 0 (ab_lk2 pl_X12_findLeast) Q (94, [some (.ref 40), some (.int y1), some (.int y2), some (.int y3), some (.int (y4 + 1)), none, none], [], 0, 0, (ab_G (ab_ui mi20 76 ((((30 : Int32) * y3) + y4)).toNatClampNeg (vp_nar .boolean 0)) ml21))))))) ∧ (¬ (r22 = 0) → (vp_in (((30 : Int32) * y3) + y4) 900 ∧ (((y1 = 2) → (vp_in y3 30 ∧ ((((mi20 75 (y3).toNatClampNeg) = 0) → (ab_W call ro 0 0 (ab_lk2 pl_X12_findLeast) Q (94, [some (.ref 40), some (.int y1), some (.int y2), some (.int y3), some (.int (y4 + 1)), none, none], [], 0, 0, (ab_G (ab_ui mi20 76 ((((30 : Int32) * y3) + y4)).toNatClampNeg (vp_nar .boolean 1)) ml21)))) ∧ (¬ ((mi20 75 (y3).toNatClampNeg) = 0) → (vp_in y4 30 ∧ ((((mi20 75 (y4).toNatClampNeg) = 0) → (ab_W call ro 0 0 (ab_lk2 pl_X12_findLeast) Q (94, [some (.ref 40), some (.int y1), some (.int y2), some (.int y3), some (.int (y4 + 1)), none, none], [], 0, 0, (ab_G (ab_ui mi20 76 ((((30 : Int32) * y3) + y4)).toNatClampNeg (vp_nar .boolean 1)) ml21)))) ∧ (¬ ((mi20 75 (y4).toNatClampNeg) = 0) → (vp_in (((30 : Int32) * y3) + y4) 900 ∧ (((((ab_ui mi20 76 ((((30 : Int32) * y3) + y4)).toNatClampNeg (vp_nar .boolean 1)) 76 ((((30 : Int32) * y3) + y4)).toNatClampNeg) = 0) → (∃ (mi25 : Nat → Nat → Int32) (ml26 : Nat → Nat → Int64), call 218 [.ref 40, .int (((1 : Int32) <<< (y3 &&& 31)) ||| ((1 : Int32) <<< (y4 &&& 31))), .int y2] (ab_G (ab_ui mi20 76 ((((30 : Int32) * y3) + y4)).toNatClampNeg (vp_nar .boolean 1)) ml21) none (ab_G mi25 ml26) ∧ (ab_W call ro 0 0 (ab_lk2 pl_X12_findLeast) Q (94, [some (.ref 40), some (.int y1), some (.int y2), some (.int y3), some (.int (y4 + 1)), none, none], [], 0, 0, (ab_G mi25 ml26))))) ∧ (¬ (((ab_ui mi20 76 ((((30 : Int32) * y3) + y4)).toNatClampNeg (vp_nar .boolean 1)) 76 ((((30 : Int32) * y3) + y4)).toNatClampNeg) = 0) → (ab_W call ro 0 0 (ab_lk2 pl_X12_findLeast) Q (94, [some (.ref 40), some (.int y1), some (.int y2), some (.int y3), some (.int (y4 + 1)), none, none], [], 0, 0, (ab_G (ab_ui mi20 76 ((((30 : Int32) * y3) + y4)).toNatClampNeg (vp_nar .boolean 1)) ml21))))))))))))) ∧ (¬ (y1 = 2) → (ab_W call ro 0 0 (ab_lk2 pl_X12_findLeast) Q (94, [some (.ref 40), some (.int y1), some (.int y2), some (.int y3), some (.int (y4 + 1)), none, none], [], 0, 0, (ab_G (ab_ui mi20 76 ((((30 : Int32) * y3) + y4)).toNatClampNeg (vp_nar .boolean 1)) ml21)))))))))))))))) ∧ (¬ (y4 < (mi 40 45)) → (ab_W call ro 0 0 (ab_lk2 pl_X12_findLeast) Q (76, [some (.ref 40), some (.int y1), some (.int y2), some (.int (y3 + 1)), none, none, none], [], 0, 0, (ab_G mi ml))))) :
    ab_W call ro 0 0 (ab_lk2 pl_X12_findLeast) Q (94, [some (.ref 40), some (.int y1), some (.int y2), some (.int y3), some (.int y4), none, none], [], 0, 0, ab_G mi ml) := by
  refine ab_wk 4 (f' := (if y4 < (mi 40 45) then 103 else 212, [some (.ref 40), some (.int y1), some (.int y2), some (.int y3), some (.int y4), none, none], [], 0, 0, (ab_G mi ml))) rfl ⟨trivial, trivial, trivial, trivial, trivial⟩ ?_
  refine ab_wi (fun c => ?_) (fun c => ?_)
  · have h := h.1 c
    obtain ⟨p0, h⟩ := h
    refine ab_wk 12 (f' := (if (mi 75 (y3).toNatClampNeg) = 0 then 152 else 123, [some (.ref 40), some (.int y1), some (.int y2), some (.int y3), some (.int y4), none, none], [.int (((30 : Int32) * y3) + y4), .ref 76], 0, 0, (ab_G mi ml))) rfl ⟨trivial, trivial, trivial, trivial, trivial, trivial, trivial, trivial, trivial, trivial, p0, trivial, trivial⟩ ?_
    refine ab_wi (fun c => ?_) (fun c => ?_)
    · have h := h.1 c
      obtain ⟨p0, h⟩ := h
      refine ab_wk 5 (f' := (if y1 = 2 then 159 else 206, [some (.ref 40), some (.int y1), some (.int y2), some (.int y3), some (.int y4), none, none], [], 0, 0, (ab_G (ab_ui mi 76 ((((30 : Int32) * y3) + y4)).toNatClampNeg (vp_nar .boolean 0)) ml))) rfl ⟨trivial, p0, trivial, trivial, trivial, trivial⟩ ?_
      refine ab_wi (fun c => ?_) (fun c => ?_)
      · have h := h.1 c
        obtain ⟨p0, h⟩ := h
        refine ab_wk 5 (f' := (if (mi 75 (y3).toNatClampNeg) = 0 then 206 else 168, [some (.ref 40), some (.int y1), some (.int y2), some (.int y3), some (.int y4), none, none], [], 0, 0, (ab_G (ab_ui mi 76 ((((30 : Int32) * y3) + y4)).toNatClampNeg (vp_nar .boolean 0)) ml))) rfl ⟨trivial, trivial, trivial, p0, trivial, trivial⟩ ?_
        refine ab_wi (fun c => ?_) (fun c => ?_)
        · have h := h.1 c
          exact ab_wk 2 (f' := (94, [some (.ref 40), some (.int y1), some (.int y2), some (.int y3), some (.int (y4 + 1)), none, none], [], 0, 0, (ab_G (ab_ui mi 76 ((((30 : Int32) * y3) + y4)).toNatClampNeg (vp_nar .boolean 0)) ml))) rfl ⟨trivial, trivial, trivial⟩ h
        · have h := h.2 c
          obtain ⟨p0, h⟩ := h
          refine ab_wk 5 (f' := (if (mi 75 (y4).toNatClampNeg) = 0 then 206 else 178, [some (.ref 40), some (.int y1), some (.int y2), some (.int y3), some (.int y4), none, none], [], 0, 0, (ab_G (ab_ui mi 76 ((((30 : Int32) * y3) + y4)).toNatClampNeg (vp_nar .boolean 0)) ml))) rfl ⟨trivial, trivial, trivial, p0, trivial, trivial⟩ ?_
          refine ab_wi (fun c => ?_) (fun c => ?_)
          · have h := h.1 c
            exact ab_wk 2 (f' := (94, [some (.ref 40), some (.int y1), some (.int y2), some (.int y3), some (.int (y4 + 1)), none, none], [], 0, 0, (ab_G (ab_ui mi 76 ((((30 : Int32) * y3) + y4)).toNatClampNeg (vp_nar .boolean 0)) ml))) rfl ⟨trivial, trivial, trivial⟩ h
          · have h := h.2 c
            obtain ⟨p0, h⟩ := h
            refine ab_wk 9 (f' := (if ((ab_ui mi 76 ((((30 : Int32) * y3) + y4)).toNatClampNeg (vp_nar .boolean 0)) 76 ((((30 : Int32) * y3) + y4)).toNatClampNeg) = 0 then 193 else 206, [some (.ref 40), some (.int y1), some (.int y2), some (.int y3), some (.int y4), none, none], [], 0, 0, (ab_G (ab_ui mi 76 ((((30 : Int32) * y3) + y4)).toNatClampNeg (vp_nar .boolean 0)) ml))) rfl ⟨trivial, trivial, trivial, trivial, trivial, trivial, trivial, p0, trivial, trivial⟩ ?_
            refine ab_wi (fun c => ?_) (fun c => ?_)
            · have h := h.1 c
              obtain ⟨mi16, ml17, hc, h⟩ := h
              refine ab_wc 10 (c := 218) (as := [.ref 40, .int (((1 : Int32) <<< (y3 &&& 31)) ||| ((1 : Int32) <<< (y4 &&& 31))), .int y2]) (pc := 206) (ll := [some (.ref 40), some (.int y1), some (.int y2), some (.int y3), some (.int y4), none, none]) (st := []) (c1 := 0) (s1 := 0) (g := (ab_G (ab_ui mi 76 ((((30 : Int32) * y3) + y4)).toNatClampNeg (vp_nar .boolean 0)) ml)) rfl ⟨trivial, trivial, trivial, trivial, trivial, trivial, trivial, trivial, trivial, trivial⟩ hc ?_
              exact ab_wk 2 (f' := (94, [some (.ref 40), some (.int y1), some (.int y2), some (.int y3), some (.int (y4 + 1)), none, none], [], 0, 0, (ab_G mi16 ml17))) rfl ⟨trivial, trivial, trivial⟩ h
            · have h := h.2 c
              exact ab_wk 2 (f' := (94, [some (.ref 40), some (.int y1), some (.int y2), some (.int y3), some (.int (y4 + 1)), none, none], [], 0, 0, (ab_G (ab_ui mi 76 ((((30 : Int32) * y3) + y4)).toNatClampNeg (vp_nar .boolean 0)) ml))) rfl ⟨trivial, trivial, trivial⟩ h
      · have h := h.2 c
        exact ab_wk 2 (f' := (94, [some (.ref 40), some (.int y1), some (.int y2), some (.int y3), some (.int (y4 + 1)), none, none], [], 0, 0, (ab_G (ab_ui mi 76 ((((30 : Int32) * y3) + y4)).toNatClampNeg (vp_nar .boolean 0)) ml))) rfl ⟨trivial, trivial, trivial⟩ h
    · have h := h.2 c
      obtain ⟨p0, h⟩ := h
      refine ab_wk 5 (f' := (if (mi 75 (y4).toNatClampNeg) = 0 then 152 else 133, [some (.ref 40), some (.int y1), some (.int y2), some (.int y3), some (.int y4), none, none], [.int (((30 : Int32) * y3) + y4), .ref 76], 0, 0, (ab_G mi ml))) rfl ⟨trivial, trivial, trivial, p0, trivial, trivial⟩ ?_
      refine ab_wi (fun c => ?_) (fun c => ?_)
      · have h := h.1 c
        obtain ⟨p0, h⟩ := h
        refine ab_wk 5 (f' := (if y1 = 2 then 159 else 206, [some (.ref 40), some (.int y1), some (.int y2), some (.int y3), some (.int y4), none, none], [], 0, 0, (ab_G (ab_ui mi 76 ((((30 : Int32) * y3) + y4)).toNatClampNeg (vp_nar .boolean 0)) ml))) rfl ⟨trivial, p0, trivial, trivial, trivial, trivial⟩ ?_
        refine ab_wi (fun c => ?_) (fun c => ?_)
        · have h := h.1 c
          obtain ⟨p0, h⟩ := h
          refine ab_wk 5 (f' := (if (mi 75 (y3).toNatClampNeg) = 0 then 206 else 168, [some (.ref 40), some (.int y1), some (.int y2), some (.int y3), some (.int y4), none, none], [], 0, 0, (ab_G (ab_ui mi 76 ((((30 : Int32) * y3) + y4)).toNatClampNeg (vp_nar .boolean 0)) ml))) rfl ⟨trivial, trivial, trivial, p0, trivial, trivial⟩ ?_
          refine ab_wi (fun c => ?_) (fun c => ?_)
          · have h := h.1 c
            exact ab_wk 2 (f' := (94, [some (.ref 40), some (.int y1), some (.int y2), some (.int y3), some (.int (y4 + 1)), none, none], [], 0, 0, (ab_G (ab_ui mi 76 ((((30 : Int32) * y3) + y4)).toNatClampNeg (vp_nar .boolean 0)) ml))) rfl ⟨trivial, trivial, trivial⟩ h
          · have h := h.2 c
            obtain ⟨p0, h⟩ := h
            refine ab_wk 5 (f' := (if (mi 75 (y4).toNatClampNeg) = 0 then 206 else 178, [some (.ref 40), some (.int y1), some (.int y2), some (.int y3), some (.int y4), none, none], [], 0, 0, (ab_G (ab_ui mi 76 ((((30 : Int32) * y3) + y4)).toNatClampNeg (vp_nar .boolean 0)) ml))) rfl ⟨trivial, trivial, trivial, p0, trivial, trivial⟩ ?_
            refine ab_wi (fun c => ?_) (fun c => ?_)
            · have h := h.1 c
              exact ab_wk 2 (f' := (94, [some (.ref 40), some (.int y1), some (.int y2), some (.int y3), some (.int (y4 + 1)), none, none], [], 0, 0, (ab_G (ab_ui mi 76 ((((30 : Int32) * y3) + y4)).toNatClampNeg (vp_nar .boolean 0)) ml))) rfl ⟨trivial, trivial, trivial⟩ h
            · have h := h.2 c
              obtain ⟨p0, h⟩ := h
              refine ab_wk 9 (f' := (if ((ab_ui mi 76 ((((30 : Int32) * y3) + y4)).toNatClampNeg (vp_nar .boolean 0)) 76 ((((30 : Int32) * y3) + y4)).toNatClampNeg) = 0 then 193 else 206, [some (.ref 40), some (.int y1), some (.int y2), some (.int y3), some (.int y4), none, none], [], 0, 0, (ab_G (ab_ui mi 76 ((((30 : Int32) * y3) + y4)).toNatClampNeg (vp_nar .boolean 0)) ml))) rfl ⟨trivial, trivial, trivial, trivial, trivial, trivial, trivial, p0, trivial, trivial⟩ ?_
              refine ab_wi (fun c => ?_) (fun c => ?_)
              · have h := h.1 c
                obtain ⟨mi18, ml19, hc, h⟩ := h
                refine ab_wc 10 (c := 218) (as := [.ref 40, .int (((1 : Int32) <<< (y3 &&& 31)) ||| ((1 : Int32) <<< (y4 &&& 31))), .int y2]) (pc := 206) (ll := [some (.ref 40), some (.int y1), some (.int y2), some (.int y3), some (.int y4), none, none]) (st := []) (c1 := 0) (s1 := 0) (g := (ab_G (ab_ui mi 76 ((((30 : Int32) * y3) + y4)).toNatClampNeg (vp_nar .boolean 0)) ml)) rfl ⟨trivial, trivial, trivial, trivial, trivial, trivial, trivial, trivial, trivial, trivial⟩ hc ?_
                exact ab_wk 2 (f' := (94, [some (.ref 40), some (.int y1), some (.int y2), some (.int y3), some (.int (y4 + 1)), none, none], [], 0, 0, (ab_G mi18 ml19))) rfl ⟨trivial, trivial, trivial⟩ h
              · have h := h.2 c
                exact ab_wk 2 (f' := (94, [some (.ref 40), some (.int y1), some (.int y2), some (.int y3), some (.int (y4 + 1)), none, none], [], 0, 0, (ab_G (ab_ui mi 76 ((((30 : Int32) * y3) + y4)).toNatClampNeg (vp_nar .boolean 0)) ml))) rfl ⟨trivial, trivial, trivial⟩ h
        · have h := h.2 c
          exact ab_wk 2 (f' := (94, [some (.ref 40), some (.int y1), some (.int y2), some (.int y3), some (.int (y4 + 1)), none, none], [], 0, 0, (ab_G (ab_ui mi 76 ((((30 : Int32) * y3) + y4)).toNatClampNeg (vp_nar .boolean 0)) ml))) rfl ⟨trivial, trivial, trivial⟩ h
      · have h := h.2 c
        obtain ⟨r22, mi20, ml21, hc, h⟩ := h
        refine ab_wc 9 (c := 212) (as := [.ref 40, .int (((1 : Int32) <<< (y3 &&& 31)) ||| ((1 : Int32) <<< (y4 &&& 31)))]) (pc := 145) (ll := [some (.ref 40), some (.int y1), some (.int y2), some (.int y3), some (.int y4), none, none]) (st := [.int (((30 : Int32) * y3) + y4), .ref 76]) (c1 := 0) (s1 := 0) (g := (ab_G mi ml)) rfl ⟨trivial, trivial, trivial, trivial, trivial, trivial, trivial, trivial, trivial⟩ hc ?_
        refine ab_wk 1 (f' := (if r22 = 0 then 152 else 148, [some (.ref 40), some (.int y1), some (.int y2), some (.int y3), some (.int y4), none, none], [.int (((30 : Int32) * y3) + y4), .ref 76], 0, 0, (ab_G mi20 ml21))) rfl ⟨trivial, trivial⟩ ?_
        refine ab_wi (fun c => ?_) (fun c => ?_)
        · have h := h.1 c
          obtain ⟨p0, h⟩ := h
          refine ab_wk 5 (f' := (if y1 = 2 then 159 else 206, [some (.ref 40), some (.int y1), some (.int y2), some (.int y3), some (.int y4), none, none], [], 0, 0, (ab_G (ab_ui mi20 76 ((((30 : Int32) * y3) + y4)).toNatClampNeg (vp_nar .boolean 0)) ml21))) rfl ⟨trivial, p0, trivial, trivial, trivial, trivial⟩ ?_
          refine ab_wi (fun c => ?_) (fun c => ?_)
          · have h := h.1 c
            obtain ⟨p0, h⟩ := h
            refine ab_wk 5 (f' := (if (mi20 75 (y3).toNatClampNeg) = 0 then 206 else 168, [some (.ref 40), some (.int y1), some (.int y2), some (.int y3), some (.int y4), none, none], [], 0, 0, (ab_G (ab_ui mi20 76 ((((30 : Int32) * y3) + y4)).toNatClampNeg (vp_nar .boolean 0)) ml21))) rfl ⟨trivial, trivial, trivial, p0, trivial, trivial⟩ ?_
            refine ab_wi (fun c => ?_) (fun c => ?_)
            · have h := h.1 c
              exact ab_wk 2 (f' := (94, [some (.ref 40), some (.int y1), some (.int y2), some (.int y3), some (.int (y4 + 1)), none, none], [], 0, 0, (ab_G (ab_ui mi20 76 ((((30 : Int32) * y3) + y4)).toNatClampNeg (vp_nar .boolean 0)) ml21))) rfl ⟨trivial, trivial, trivial⟩ h
            · have h := h.2 c
              obtain ⟨p0, h⟩ := h
              refine ab_wk 5 (f' := (if (mi20 75 (y4).toNatClampNeg) = 0 then 206 else 178, [some (.ref 40), some (.int y1), some (.int y2), some (.int y3), some (.int y4), none, none], [], 0, 0, (ab_G (ab_ui mi20 76 ((((30 : Int32) * y3) + y4)).toNatClampNeg (vp_nar .boolean 0)) ml21))) rfl ⟨trivial, trivial, trivial, p0, trivial, trivial⟩ ?_
              refine ab_wi (fun c => ?_) (fun c => ?_)
              · have h := h.1 c
                exact ab_wk 2 (f' := (94, [some (.ref 40), some (.int y1), some (.int y2), some (.int y3), some (.int (y4 + 1)), none, none], [], 0, 0, (ab_G (ab_ui mi20 76 ((((30 : Int32) * y3) + y4)).toNatClampNeg (vp_nar .boolean 0)) ml21))) rfl ⟨trivial, trivial, trivial⟩ h
              · have h := h.2 c
                obtain ⟨p0, h⟩ := h
                refine ab_wk 9 (f' := (if ((ab_ui mi20 76 ((((30 : Int32) * y3) + y4)).toNatClampNeg (vp_nar .boolean 0)) 76 ((((30 : Int32) * y3) + y4)).toNatClampNeg) = 0 then 193 else 206, [some (.ref 40), some (.int y1), some (.int y2), some (.int y3), some (.int y4), none, none], [], 0, 0, (ab_G (ab_ui mi20 76 ((((30 : Int32) * y3) + y4)).toNatClampNeg (vp_nar .boolean 0)) ml21))) rfl ⟨trivial, trivial, trivial, trivial, trivial, trivial, trivial, p0, trivial, trivial⟩ ?_
                refine ab_wi (fun c => ?_) (fun c => ?_)
                · have h := h.1 c
                  obtain ⟨mi23, ml24, hc, h⟩ := h
                  refine ab_wc 10 (c := 218) (as := [.ref 40, .int (((1 : Int32) <<< (y3 &&& 31)) ||| ((1 : Int32) <<< (y4 &&& 31))), .int y2]) (pc := 206) (ll := [some (.ref 40), some (.int y1), some (.int y2), some (.int y3), some (.int y4), none, none]) (st := []) (c1 := 0) (s1 := 0) (g := (ab_G (ab_ui mi20 76 ((((30 : Int32) * y3) + y4)).toNatClampNeg (vp_nar .boolean 0)) ml21)) rfl ⟨trivial, trivial, trivial, trivial, trivial, trivial, trivial, trivial, trivial, trivial⟩ hc ?_
                  exact ab_wk 2 (f' := (94, [some (.ref 40), some (.int y1), some (.int y2), some (.int y3), some (.int (y4 + 1)), none, none], [], 0, 0, (ab_G mi23 ml24))) rfl ⟨trivial, trivial, trivial⟩ h
                · have h := h.2 c
                  exact ab_wk 2 (f' := (94, [some (.ref 40), some (.int y1), some (.int y2), some (.int y3), some (.int (y4 + 1)), none, none], [], 0, 0, (ab_G (ab_ui mi20 76 ((((30 : Int32) * y3) + y4)).toNatClampNeg (vp_nar .boolean 0)) ml21))) rfl ⟨trivial, trivial, trivial⟩ h
          · have h := h.2 c
            exact ab_wk 2 (f' := (94, [some (.ref 40), some (.int y1), some (.int y2), some (.int y3), some (.int (y4 + 1)), none, none], [], 0, 0, (ab_G (ab_ui mi20 76 ((((30 : Int32) * y3) + y4)).toNatClampNeg (vp_nar .boolean 0)) ml21))) rfl ⟨trivial, trivial, trivial⟩ h
        · have h := h.2 c
          obtain ⟨p0, h⟩ := h
          refine ab_wk 6 (f' := (if y1 = 2 then 159 else 206, [some (.ref 40), some (.int y1), some (.int y2), some (.int y3), some (.int y4), none, none], [], 0, 0, (ab_G (ab_ui mi20 76 ((((30 : Int32) * y3) + y4)).toNatClampNeg (vp_nar .boolean 1)) ml21))) rfl ⟨trivial, trivial, p0, trivial, trivial, trivial, trivial⟩ ?_
          refine ab_wi (fun c => ?_) (fun c => ?_)
          · have h := h.1 c
            obtain ⟨p0, h⟩ := h
            refine ab_wk 5 (f' := (if (mi20 75 (y3).toNatClampNeg) = 0 then 206 else 168, [some (.ref 40), some (.int y1), some (.int y2), some (.int y3), some (.int y4), none, none], [], 0, 0, (ab_G (ab_ui mi20 76 ((((30 : Int32) * y3) + y4)).toNatClampNeg (vp_nar .boolean 1)) ml21))) rfl ⟨trivial, trivial, trivial, p0, trivial, trivial⟩ ?_
            refine ab_wi (fun c => ?_) (fun c => ?_)
            · have h := h.1 c
              exact ab_wk 2 (f' := (94, [some (.ref 40), some (.int y1), some (.int y2), some (.int y3), some (.int (y4 + 1)), none, none], [], 0, 0, (ab_G (ab_ui mi20 76 ((((30 : Int32) * y3) + y4)).toNatClampNeg (vp_nar .boolean 1)) ml21))) rfl ⟨trivial, trivial, trivial⟩ h
            · have h := h.2 c
              obtain ⟨p0, h⟩ := h
              refine ab_wk 5 (f' := (if (mi20 75 (y4).toNatClampNeg) = 0 then 206 else 178, [some (.ref 40), some (.int y1), some (.int y2), some (.int y3), some (.int y4), none, none], [], 0, 0, (ab_G (ab_ui mi20 76 ((((30 : Int32) * y3) + y4)).toNatClampNeg (vp_nar .boolean 1)) ml21))) rfl ⟨trivial, trivial, trivial, p0, trivial, trivial⟩ ?_
              refine ab_wi (fun c => ?_) (fun c => ?_)
              · have h := h.1 c
                exact ab_wk 2 (f' := (94, [some (.ref 40), some (.int y1), some (.int y2), some (.int y3), some (.int (y4 + 1)), none, none], [], 0, 0, (ab_G (ab_ui mi20 76 ((((30 : Int32) * y3) + y4)).toNatClampNeg (vp_nar .boolean 1)) ml21))) rfl ⟨trivial, trivial, trivial⟩ h
              · have h := h.2 c
                obtain ⟨p0, h⟩ := h
                refine ab_wk 9 (f' := (if ((ab_ui mi20 76 ((((30 : Int32) * y3) + y4)).toNatClampNeg (vp_nar .boolean 1)) 76 ((((30 : Int32) * y3) + y4)).toNatClampNeg) = 0 then 193 else 206, [some (.ref 40), some (.int y1), some (.int y2), some (.int y3), some (.int y4), none, none], [], 0, 0, (ab_G (ab_ui mi20 76 ((((30 : Int32) * y3) + y4)).toNatClampNeg (vp_nar .boolean 1)) ml21))) rfl ⟨trivial, trivial, trivial, trivial, trivial, trivial, trivial, p0, trivial, trivial⟩ ?_
                refine ab_wi (fun c => ?_) (fun c => ?_)
                · have h := h.1 c
                  obtain ⟨mi25, ml26, hc, h⟩ := h
                  refine ab_wc 10 (c := 218) (as := [.ref 40, .int (((1 : Int32) <<< (y3 &&& 31)) ||| ((1 : Int32) <<< (y4 &&& 31))), .int y2]) (pc := 206) (ll := [some (.ref 40), some (.int y1), some (.int y2), some (.int y3), some (.int y4), none, none]) (st := []) (c1 := 0) (s1 := 0) (g := (ab_G (ab_ui mi20 76 ((((30 : Int32) * y3) + y4)).toNatClampNeg (vp_nar .boolean 1)) ml21)) rfl ⟨trivial, trivial, trivial, trivial, trivial, trivial, trivial, trivial, trivial, trivial⟩ hc ?_
                  exact ab_wk 2 (f' := (94, [some (.ref 40), some (.int y1), some (.int y2), some (.int y3), some (.int (y4 + 1)), none, none], [], 0, 0, (ab_G mi25 ml26))) rfl ⟨trivial, trivial, trivial⟩ h
                · have h := h.2 c
                  exact ab_wk 2 (f' := (94, [some (.ref 40), some (.int y1), some (.int y2), some (.int y3), some (.int (y4 + 1)), none, none], [], 0, 0, (ab_G (ab_ui mi20 76 ((((30 : Int32) * y3) + y4)).toNatClampNeg (vp_nar .boolean 1)) ml21))) rfl ⟨trivial, trivial, trivial⟩ h
          · have h := h.2 c
            exact ab_wk 2 (f' := (94, [some (.ref 40), some (.int y1), some (.int y2), some (.int y3), some (.int (y4 + 1)), none, none], [], 0, 0, (ab_G (ab_ui mi20 76 ((((30 : Int32) * y3) + y4)).toNatClampNeg (vp_nar .boolean 1)) ml21))) rfl ⟨trivial, trivial, trivial⟩ h
  · have h := h.2 c
    exact ab_wk 2 (f' := (76, [some (.ref 40), some (.int y1), some (.int y2), some (.int (y3 + 1)), some (.int y4), none, none], [], 0, 0, (ab_G mi ml))) rfl ⟨trivial, trivial, trivial⟩ (ab_drop h (ab_lrc _ (ab_lrc _ (ab_lrc _ (ab_lrc _ (ab_lrn _ (ab_lrc _ (ab_lrc _ ab_lr0))))))))
theorem vc_X12_finds_0 {call : Nat → List Value → ab_S → Option Value → ab_S → Prop} {ro : ab_E} {Q : Option Value → ab_S → Prop} (x1 : Int32) (x2 : Int32) (mi : Nat → Nat → Int32) (ml : Nat → Nat → Int64)
    (h : (((mi 40 55) = x2) → (Q none (ab_G (ab_ui (ab_ui mi 40 56 x1) 40 55 ((mi 40 55) + 1)) ml))) ∧ (¬ ((mi 40 55) = x2) → (Q none (ab_G (ab_ui (ab_ui mi 40 56 (mi 40 56)) 40 55 ((mi 40 55) + 1)) ml)))) :
    ab_W call ro 0 0 (ab_lk2 pl_X12_finds) Q (0, [some (.ref 40), some (.int x1), some (.int x2)], [], 0, 0, ab_G mi ml) := by
  refine ab_wk 5 (f' := (if (mi 40 55) = x2 then 9 else 13, [some (.ref 40), some (.int x1), some (.int x2)], [.ref 40], 0, 0, (ab_G mi ml))) rfl ⟨trivial, trivial, trivial, trivial, trivial, trivial⟩ ?_
  refine ab_wi (fun c => ?_) (fun c => ?_)
  · have h := h.1 c
    exact ab_wr 10 rfl ⟨trivial, trivial, trivial, trivial, trivial, trivial, trivial, trivial, trivial, trivial⟩ h
  · have h := h.2 c
    exact ab_wr 10 rfl ⟨trivial, trivial, trivial, trivial, trivial, trivial, trivial, trivial, trivial, trivial⟩ h
theorem vc_X12_least_0 {call : Nat → List Value → ab_S → Option Value → ab_S → Prop} {ro : ab_E} {Q : Option Value → ab_S → Prop} (x1 : Int32) (mi : Nat → Nat → Int32) (ml : Nat → Nat → Int64)
    (h : ∃ (r3 : Int32) (mi1 : Nat → Nat → Int32) (ml2 : Nat → Nat → Int64), call 178 [.int x1, .int 1, .int 3] (ab_G (ab_ui mi 40 0 0) ml) (some (.int r3)) (ab_G mi1 ml2) ∧ (((r3 = 0) → (Q (some (.int (-1))) (ab_G mi1 ml2))) ∧ (¬ (r3 = 0) → (∃ (mi4 : Nat → Nat → Int32) (ml5 : Nat → Nat → Int64), call 217 [.ref 40, .int x1, .int (-1)] (ab_G mi1 ml2) none (ab_G mi4 ml5) ∧ (Q (some (.int (mi4 40 55))) (ab_G mi4 ml5)))))) :
    ab_W call ro 0 0 (ab_lk2 pl_X12_least) Q (0, [some (.ref 40), some (.int x1)], [], 0, 0, ab_G mi ml) := by
  obtain ⟨r3, mi1, ml2, hc, h⟩ := h
  refine ab_wc 7 (c := 178) (as := [.int x1, .int 1, .int 3]) (pc := 11) (ll := [some (.ref 40), some (.int x1)]) (st := []) (c1 := 0) (s1 := 0) (g := (ab_G (ab_ui mi 40 0 0) ml)) rfl ⟨trivial, trivial, trivial, trivial, trivial, trivial, trivial⟩ hc ?_
  refine ab_wk 1 (f' := (if r3 = 0 then 14 else 16, [some (.ref 40), some (.int x1)], [], 0, 0, (ab_G mi1 ml2))) rfl ⟨trivial, trivial⟩ ?_
  refine ab_wi (fun c => ?_) (fun c => ?_)
  · have h := h.1 c
    exact ab_wr 2 rfl ⟨trivial, trivial⟩ h
  · have h := h.2 c
    obtain ⟨mi4, ml5, hc, h⟩ := h
    refine ab_wc 4 (c := 217) (as := [.ref 40, .int x1, .int (-1)]) (pc := 22) (ll := [some (.ref 40), some (.int x1)]) (st := []) (c1 := 0) (s1 := 0) (g := (ab_G mi1 ml2)) rfl ⟨trivial, trivial, trivial, trivial⟩ hc ?_
    exact ab_wr 3 rfl ⟨trivial, trivial, trivial⟩ h
theorem vc_X12_leastSet_0 {call : Nat → List Value → ab_S → Option Value → ab_S → Prop} {ro : ab_E} {Q : Option Value → ab_S → Prop} (x1 : Int32) (x2 : Int32) (mi : Nat → Nat → Int32) (ml : Nat → Nat → Int64)
    (h : ∃ (r3 : Int32) (mi1 : Nat → Nat → Int32) (ml2 : Nat → Nat → Int64), call 178 [.int x1, .int 1, .int 3] (ab_G (ab_ui mi 40 0 0) ml) (some (.int r3)) (ab_G mi1 ml2) ∧ (((r3 = 0) → (Q (some (.int (-1))) (ab_G mi1 ml2))) ∧ (¬ (r3 = 0) → (((x2 < 0) → (Q (some (.int (-1))) (ab_G mi1 ml2))) ∧ (¬ (x2 < 0) → (∃ (mi4 : Nat → Nat → Int32) (ml5 : Nat → Nat → Int64), call 217 [.ref 40, .int x1, .int x2] (ab_G mi1 ml2) none (ab_G mi4 ml5) ∧ (Q (some (.int (mi4 40 56))) (ab_G mi4 ml5)))))))) :
    ab_W call ro 0 0 (ab_lk2 pl_X12_leastSet) Q (0, [some (.ref 40), some (.int x1), some (.int x2)], [], 0, 0, ab_G mi ml) := by
  obtain ⟨r3, mi1, ml2, hc, h⟩ := h
  refine ab_wc 7 (c := 178) (as := [.int x1, .int 1, .int 3]) (pc := 11) (ll := [some (.ref 40), some (.int x1), some (.int x2)]) (st := []) (c1 := 0) (s1 := 0) (g := (ab_G (ab_ui mi 40 0 0) ml)) rfl ⟨trivial, trivial, trivial, trivial, trivial, trivial, trivial⟩ hc ?_
  refine ab_wk 1 (f' := (if r3 = 0 then 18 else 14, [some (.ref 40), some (.int x1), some (.int x2)], [], 0, 0, (ab_G mi1 ml2))) rfl ⟨trivial, trivial⟩ ?_
  refine ab_wi (fun c => ?_) (fun c => ?_)
  · have h := h.1 c
    exact ab_wr 2 rfl ⟨trivial, trivial⟩ h
  · have h := h.2 c
    refine ab_wk 2 (f' := (if x2 < 0 then 18 else 20, [some (.ref 40), some (.int x1), some (.int x2)], [], 0, 0, (ab_G mi1 ml2))) rfl ⟨trivial, trivial, trivial⟩ ?_
    refine ab_wi (fun c => ?_) (fun c => ?_)
    · have h := h.1 c
      exact ab_wr 2 rfl ⟨trivial, trivial⟩ h
    · have h := h.2 c
      obtain ⟨mi4, ml5, hc, h⟩ := h
      refine ab_wc 4 (c := 217) (as := [.ref 40, .int x1, .int x2]) (pc := 26) (ll := [some (.ref 40), some (.int x1), some (.int x2)]) (st := []) (c1 := 0) (s1 := 0) (g := (ab_G mi1 ml2)) rfl ⟨trivial, trivial, trivial, trivial⟩ hc ?_
      exact ab_wr 3 rfl ⟨trivial, trivial, trivial⟩ h
theorem vc_X12_findDraft_0 {call : Nat → List Value → ab_S → Option Value → ab_S → Prop} {ro : ab_E} {Q : Option Value → ab_S → Prop} (x1 : Int32) (mi : Nat → Nat → Int32) (ml : Nat → Nat → Int64)
    (h : ∃ (mi1 : Nat → Nat → Int32) (ml2 : Nat → Nat → Int64), call 198 [.ref 40] (ab_G mi ml) none (ab_G mi1 ml2) ∧ ((((mi1 40 45) < 12) → (ab_W call ro 0 0 (ab_lk2 pl_X12_findDraft) Q (25, [some (.ref 40), some (.int x1), some (.int (mi1 40 45)), some (.int 0), none, none], [], 0, 0, (ab_G mi1 ml2)))) ∧ (¬ ((mi1 40 45) < 12) → (ab_W call ro 0 0 (ab_lk2 pl_X12_findDraft) Q (25, [some (.ref 40), some (.int x1), some (.int 12), some (.int 0), none, none], [], 0, 0, (ab_G mi1 ml2)))))) :
    ab_W call ro 0 0 (ab_lk2 pl_X12_findDraft) Q (0, [some (.ref 40), some (.int x1), none, none, none, none], [], 0, 0, ab_G mi ml) := by
  obtain ⟨mi1, ml2, hc, h⟩ := h
  refine ab_wc 2 (c := 198) (as := [.ref 40]) (pc := 4) (ll := [some (.ref 40), some (.int x1), none, none, none, none]) (st := []) (c1 := 0) (s1 := 0) (g := (ab_G mi ml)) rfl ⟨trivial, trivial⟩ hc ?_
  refine ab_wk 4 (f' := (if (mi1 40 45) < 12 then 13 else 20, [some (.ref 40), some (.int x1), none, none, none, none], [], 0, 0, (ab_G mi1 ml2))) rfl ⟨trivial, trivial, trivial, trivial, trivial⟩ ?_
  refine ab_wi (fun c => ?_) (fun c => ?_)
  · have h := h.1 c
    exact ab_wk 6 (f' := (25, [some (.ref 40), some (.int x1), some (.int (mi1 40 45)), some (.int 0), none, none], [], 0, 0, (ab_G mi1 ml2))) rfl ⟨trivial, trivial, trivial, trivial, trivial, trivial, trivial⟩ h
  · have h := h.2 c
    exact ab_wk 4 (f' := (25, [some (.ref 40), some (.int x1), some (.int 12), some (.int 0), none, none], [], 0, 0, (ab_G mi1 ml2))) rfl ⟨trivial, trivial, trivial, trivial, trivial⟩ h
theorem vc_X12_findDraft_25 {call : Nat → List Value → ab_S → Option Value → ab_S → Prop} {ro : ab_E} {Q : Option Value → ab_S → Prop} (y1 : Int32) (y2 : Int32) (y3 : Int32) (mi : Nat → Nat → Int32) (ml : Nat → Nat → Int64)
    (h : ((y3 < y2) → (((y1 = 0) → (∃ (r5 : Int32) (mi3 : Nat → Nat → Int32) (ml4 : Nat → Nat → Int64), call 201 [.ref 40, .int y3] (ab_G mi ml) (some (.int r5)) (ab_G mi3 ml4) ∧ (vp_in y3 12 ∧ (ab_W call ro 0 0 (ab_lk2 pl_X12_findDraft) Q (25, [some (.ref 40), some (.int y1), some (.int y2), some (.int (y3 + 1)), none, none], [], 0, 0, (ab_G (ab_ui mi3 77 (y3).toNatClampNeg r5) ml4)))))) ∧ (¬ (y1 = 0) → (((y1 = 1) → (∃ (r8 : Int32) (mi6 : Nat → Nat → Int32) (ml7 : Nat → Nat → Int64), call 202 [.ref 40, .int y3] (ab_G mi ml) (some (.int r8)) (ab_G mi6 ml7) ∧ (vp_in y3 12 ∧ (ab_W call ro 0 0 (ab_lk2 pl_X12_findDraft) Q (25, [some (.ref 40), some (.int y1), some (.int y2), some (.int (y3 + 1)), none, none], [], 0, 0, (ab_G (ab_ui mi6 77 (y3).toNatClampNeg r8) ml7)))))) ∧ (¬ (y1 = 1) → (((y1 = 2) → (∃ (r11 : Int32) (mi9 : Nat → Nat → Int32) (ml10 : Nat → Nat → Int64), call 203 [.ref 40, .int y3] (ab_G mi ml) (some (.int r11)) (ab_G mi9 ml10) ∧ (vp_in y3 12 ∧ (ab_W call ro 0 0 (ab_lk2 pl_X12_findDraft) Q (25, [some (.ref 40), some (.int y1), some (.int y2), some (.int (y3 + 1)), none, none], [], 0, 0, (ab_G (ab_ui mi9 77 (y3).toNatClampNeg r11) ml10)))))) ∧ (¬ (y1 = 2) → (∃ (r14 : Int32) (mi12 : Nat → Nat → Int32) (ml13 : Nat → Nat → Int64), call 206 [.ref 40, .int y3] (ab_G mi ml) (some (.int r14)) (ab_G mi12 ml13) ∧ (vp_in y3 12 ∧ (ab_W call ro 0 0 (ab_lk2 pl_X12_findDraft) Q (25, [some (.ref 40), some (.int y1), some (.int y2), some (.int (y3 + 1)), none, none], [], 0, 0, (ab_G (ab_ui mi12 77 (y3).toNatClampNeg r14) ml13)))))))))))) ∧ (¬ (y3 < y2) → (ab_W call ro 0 0 (ab_lk2 pl_X12_findDraft) Q (97, [some (.ref 40), some (.int y1), some (.int y2), some (.int 0), none, none], [], 0, 0, (ab_G (ab_ui (ab_ui mi 40 58 (-1)) 40 59 0) ml))))) :
    ab_W call ro 0 0 (ab_lk2 pl_X12_findDraft) Q (25, [some (.ref 40), some (.int y1), some (.int y2), some (.int y3), none, none], [], 0, 0, ab_G mi ml) := by
  refine ab_wk 3 (f' := (if y3 < y2 then 30 else 85, [some (.ref 40), some (.int y1), some (.int y2), some (.int y3), none, none], [], 0, 0, (ab_G mi ml))) rfl ⟨trivial, trivial, trivial, trivial⟩ ?_
  refine ab_wi (fun c => ?_) (fun c => ?_)
  · have h := h.1 c
    refine ab_wk 5 (f' := (if y1 = 0 then 39 else 47, [some (.ref 40), some (.int y1), some (.int y2), some (.int y3), none, none], [.int y3, .ref 77], 0, 0, (ab_G mi ml))) rfl ⟨trivial, trivial, trivial, trivial, trivial, trivial⟩ ?_
    refine ab_wi (fun c => ?_) (fun c => ?_)
    · have h := h.1 c
      obtain ⟨r5, mi3, ml4, hc, h⟩ := h
      refine ab_wc 3 (c := 201) (as := [.ref 40, .int y3]) (pc := 44) (ll := [some (.ref 40), some (.int y1), some (.int y2), some (.int y3), none, none]) (st := [.int y3, .ref 77]) (c1 := 0) (s1 := 0) (g := (ab_G mi ml)) rfl ⟨trivial, trivial, trivial⟩ hc ?_
      obtain ⟨p0, h⟩ := h
      exact ab_wk 4 (f' := (25, [some (.ref 40), some (.int y1), some (.int y2), some (.int (y3 + 1)), none, none], [], 0, 0, (ab_G (ab_ui mi3 77 (y3).toNatClampNeg r5) ml4))) rfl ⟨trivial, p0, trivial, trivial, trivial⟩ h
    · have h := h.2 c
      refine ab_wk 3 (f' := (if y1 = 1 then 52 else 60, [some (.ref 40), some (.int y1), some (.int y2), some (.int y3), none, none], [.int y3, .ref 77], 0, 0, (ab_G mi ml))) rfl ⟨trivial, trivial, trivial, trivial⟩ ?_
      refine ab_wi (fun c => ?_) (fun c => ?_)
      · have h := h.1 c
        obtain ⟨r8, mi6, ml7, hc, h⟩ := h
        refine ab_wc 3 (c := 202) (as := [.ref 40, .int y3]) (pc := 57) (ll := [some (.ref 40), some (.int y1), some (.int y2), some (.int y3), none, none]) (st := [.int y3, .ref 77]) (c1 := 0) (s1 := 0) (g := (ab_G mi ml)) rfl ⟨trivial, trivial, trivial⟩ hc ?_
        obtain ⟨p0, h⟩ := h
        exact ab_wk 4 (f' := (25, [some (.ref 40), some (.int y1), some (.int y2), some (.int (y3 + 1)), none, none], [], 0, 0, (ab_G (ab_ui mi6 77 (y3).toNatClampNeg r8) ml7))) rfl ⟨trivial, p0, trivial, trivial, trivial⟩ h
      · have h := h.2 c
        refine ab_wk 3 (f' := (if y1 = 2 then 65 else 73, [some (.ref 40), some (.int y1), some (.int y2), some (.int y3), none, none], [.int y3, .ref 77], 0, 0, (ab_G mi ml))) rfl ⟨trivial, trivial, trivial, trivial⟩ ?_
        refine ab_wi (fun c => ?_) (fun c => ?_)
        · have h := h.1 c
          obtain ⟨r11, mi9, ml10, hc, h⟩ := h
          refine ab_wc 3 (c := 203) (as := [.ref 40, .int y3]) (pc := 70) (ll := [some (.ref 40), some (.int y1), some (.int y2), some (.int y3), none, none]) (st := [.int y3, .ref 77]) (c1 := 0) (s1 := 0) (g := (ab_G mi ml)) rfl ⟨trivial, trivial, trivial⟩ hc ?_
          obtain ⟨p0, h⟩ := h
          exact ab_wk 4 (f' := (25, [some (.ref 40), some (.int y1), some (.int y2), some (.int (y3 + 1)), none, none], [], 0, 0, (ab_G (ab_ui mi9 77 (y3).toNatClampNeg r11) ml10))) rfl ⟨trivial, p0, trivial, trivial, trivial⟩ h
        · have h := h.2 c
          obtain ⟨r14, mi12, ml13, hc, h⟩ := h
          refine ab_wc 3 (c := 206) (as := [.ref 40, .int y3]) (pc := 78) (ll := [some (.ref 40), some (.int y1), some (.int y2), some (.int y3), none, none]) (st := [.int y3, .ref 77]) (c1 := 0) (s1 := 0) (g := (ab_G mi ml)) rfl ⟨trivial, trivial, trivial⟩ hc ?_
          obtain ⟨p0, h⟩ := h
          exact ab_wk 3 (f' := (25, [some (.ref 40), some (.int y1), some (.int y2), some (.int (y3 + 1)), none, none], [], 0, 0, (ab_G (ab_ui mi12 77 (y3).toNatClampNeg r14) ml13))) rfl ⟨p0, trivial, trivial, trivial⟩ h
  · have h := h.2 c
    exact ab_wk 8 (f' := (97, [some (.ref 40), some (.int y1), some (.int y2), some (.int 0), none, none], [], 0, 0, (ab_G (ab_ui (ab_ui mi 40 58 (-1)) 40 59 0) ml))) rfl ⟨trivial, trivial, trivial, trivial, trivial, trivial, trivial, trivial, trivial⟩ h
theorem vc_X12_findDraft_97 {call : Nat → List Value → ab_S → Option Value → ab_S → Prop} {ro : ab_E} {Q : Option Value → ab_S → Prop} (y1 : Int32) (y2 : Int32) (y3 : Int32) (mi : Nat → Nat → Int32) (ml : Nat → Nat → Int64)
    (h : ((y3 < ((1 : Int32) <<< (y2 &&& 31))) → (ab_W call ro 0 0 (ab_lk2 pl_X12_findDraft) Q (110, [some (.ref 40), some (.int y1), some (.int y2), some (.int y3), some (.int 0), some (.int 0)], [], 0, 0, (ab_G mi ml)))) ∧ (¬ (y3 < ((1 : Int32) <<< (y2 &&& 31))) → (Q none (ab_G mi ml)))) :
    ab_W call ro 0 0 (ab_lk2 pl_X12_findDraft) Q (97, [some (.ref 40), some (.int y1), some (.int y2), some (.int y3), none, none], [], 0, 0, ab_G mi ml) := by
  refine ab_wk 5 (f' := (if y3 < ((1 : Int32) <<< (y2 &&& 31)) then 104 else 224, [some (.ref 40), some (.int y1), some (.int y2), some (.int y3), none, none], [], 0, 0, (ab_G mi ml))) rfl ⟨trivial, trivial, trivial, trivial, trivial, trivial⟩ ?_
  refine ab_wi (fun c => ?_) (fun c => ?_)
  · have h := h.1 c
    exact ab_wk 4 (f' := (110, [some (.ref 40), some (.int y1), some (.int y2), some (.int y3), some (.int 0), some (.int 0)], [], 0, 0, (ab_G mi ml))) rfl ⟨trivial, trivial, trivial, trivial, trivial⟩ h
  · have h := h.2 c
    exact ab_wr 1 rfl trivial h
theorem vc_X12_findDraft_110 {call : Nat → List Value → ab_S → Option Value → ab_S → Prop} {ro : ab_E} {Q : Option Value → ab_S → Prop} (y1 : Int32) (y2 : Int32) (y3 : Int32) (y4 : Int32) (y5 : Int32) (mi : Nat → Nat → Int32) (ml : Nat → Nat → Int64)
    (h : ((y5 < y2) → (((((y3 >>> (y5 &&& 31)) &&& 1) = 1) → (vp_in y5 12 ∧ (ab_W call ro 0 0 (ab_lk2 pl_X12_findDraft) Q (110, [some (.ref 40), some (.int y1), some (.int y2), some (.int y3), some (.int (y4 + (mi 77 (y5).toNatClampNeg))), some (.int (y5 + 1))], [], 0, 0, (ab_G mi ml))))) ∧ (¬ (((y3 >>> (y5 &&& 31)) &&& 1) = 1) → (ab_W call ro 0 0 (ab_lk2 pl_X12_findDraft) Q (110, [some (.ref 40), some (.int y1), some (.int y2), some (.int y3), some (.int (y4 + 0)), some (.int (y5 + 1))], [], 0, 0, (ab_G mi ml)))))) ∧ (¬ (y5 < y2) → ((((mi 40 58) < 0) → (∃ (r17 : Int32) (mi15 : Nat → Nat → Int32) (ml16 : Nat → Nat → Int64), call 212 [.ref 40, .int y3] (ab_G mi ml) (some (.int r17)) (ab_G mi15 ml16) ∧ (((r17 = 0) → (ab_W call ro 0 0 (ab_lk2 pl_X12_findDraft) Q (97, [some (.ref 40), some (.int y1), some (.int y2), some (.int (y3 + 1)), none, none], [], 0, 0, (ab_G mi15 ml16)))) ∧ (¬ (r17 = 0) → (ab_W call ro 0 0 (ab_lk2 pl_X12_findDraft) Q (97, [some (.ref 40), some (.int y1), some (.int y2), some (.int (y3 + 1)), none, none], [], 0, 0, (ab_G (ab_ui (ab_ui mi15 40 58 y3) 40 59 y4) ml16))))))) ∧ (¬ ((mi 40 58) < 0) → ((((mi 40 59) < y4) → (∃ (r20 : Int32) (mi18 : Nat → Nat → Int32) (ml19 : Nat → Nat → Int64), call 212 [.ref 40, .int y3] (ab_G mi ml) (some (.int r20)) (ab_G mi18 ml19) ∧ (((r20 = 0) → (ab_W call ro 0 0 (ab_lk2 pl_X12_findDraft) Q (97, [some (.ref 40), some (.int y1), some (.int y2), some (.int (y3 + 1)), none, none], [], 0, 0, (ab_G mi18 ml19)))) ∧ (¬ (r20 = 0) → (ab_W call ro 0 0 (ab_lk2 pl_X12_findDraft) Q (97, [some (.ref 40), some (.int y1), some (.int y2), some (.int (y3 + 1)), none, none], [], 0, 0, (ab_G (ab_ui (ab_ui mi18 40 58 y3) 40 59 y4) ml19))))))) ∧ (¬ ((mi 40 59) < y4) → (((y4 = (mi 40 59)) → (∃ (r23 : Int32) (mi21 : Nat → Nat → Int32) (ml22 : Nat → Nat → Int64), call 161 [.int y3] (ab_G mi ml) (some (.int r23)) (ab_G mi21 ml22) ∧ (∃ (r26 : Int32) (mi24 : Nat → Nat → Int32) (ml25 : Nat → Nat → Int64), call 161 [.int (mi21 40 58)] (ab_G mi21 ml22) (some (.int r26)) (ab_G mi24 ml25) ∧ (((r23 < r26) → (∃ (r29 : Int32) (mi27 : Nat → Nat → Int32) (ml28 : Nat → Nat → Int64), call 212 [.ref 40, .int y3] (ab_G mi24 ml25) (some (.int r29)) (ab_G mi27 ml28) ∧ (((r29 = 0) → (ab_W call ro 0 0 (ab_lk2 pl_X12_findDraft) Q (97, [some (.ref 40), some (.int y1), some (.int y2), some (.int (y3 + 1)), none, none], [], 0, 0, (ab_G mi27 ml28)))) ∧ (¬ (r29 = 0) → (ab_W call ro 0 0 (ab_lk2 pl_X12_findDraft) Q (97, [some (.ref 40), some (.int y1), some (.int y2), some (.int (y3 + 1)), none, none], [], 0, 0, (ab_G (ab_ui (ab_ui mi27 40 58 y3) 40 59 y4) ml28))))))) ∧ (¬ (r23 < r26) → (ab_W call ro 0 0 (ab_lk2 pl_X12_findDraft) Q (97, [some (.ref 40), some (.int y1), some (.int y2), some (.int (y3 + 1)), none, none], [], 0, 0, (ab_G mi24 ml25)))))))) ∧ (¬ (y4 = (mi 40 59)) → (ab_W call ro 0 0 (ab_lk2 pl_X12_findDraft) Q (97, [some (.ref 40), some (.int y1), some (.int y2), some (.int (y3 + 1)), none, none], [], 0, 0, (ab_G mi ml))))))))))) :
    ab_W call ro 0 0 (ab_lk2 pl_X12_findDraft) Q (110, [some (.ref 40), some (.int y1), some (.int y2), some (.int y3), some (.int y4), some (.int y5)], [], 0, 0, ab_G mi ml) := by
  refine ab_wk 3 (f' := (if y5 < y2 then 116 else 148, [some (.ref 40), some (.int y1), some (.int y2), some (.int y3), some (.int y4), some (.int y5)], [], 0, 0, (ab_G mi ml))) rfl ⟨trivial, trivial, trivial, trivial⟩ ?_
  refine ab_wi (fun c => ?_) (fun c => ?_)
  · have h := h.1 c
    refine ab_wk 8 (f' := (if ((y3 >>> (y5 &&& 31)) &&& 1) = 1 then 128 else 138, [some (.ref 40), some (.int y1), some (.int y2), some (.int y3), some (.int y4), some (.int y5)], [.int y4], 0, 0, (ab_G mi ml))) rfl ⟨trivial, trivial, trivial, trivial, trivial, trivial, trivial, trivial, trivial⟩ ?_
    refine ab_wi (fun c => ?_) (fun c => ?_)
    · have h := h.1 c
      obtain ⟨p0, h⟩ := h
      exact ab_wk 9 (f' := (110, [some (.ref 40), some (.int y1), some (.int y2), some (.int y3), some (.int (y4 + (mi 77 (y5).toNatClampNeg))), some (.int (y5 + 1))], [], 0, 0, (ab_G mi ml))) rfl ⟨trivial, trivial, trivial, p0, trivial, trivial, trivial, trivial, trivial, trivial⟩ h
    · have h := h.2 c
      exact ab_wk 5 (f' := (110, [some (.ref 40), some (.int y1), some (.int y2), some (.int y3), some (.int (y4 + 0)), some (.int (y5 + 1))], [], 0, 0, (ab_G mi ml))) rfl ⟨trivial, trivial, trivial, trivial, trivial, trivial⟩ h
  · have h := h.2 c
    refine ab_wk 3 (f' := (if (mi 40 58) < 0 then 187 else 155, [some (.ref 40), some (.int y1), some (.int y2), some (.int y3), some (.int y4), some (.int y5)], [], 0, 0, (ab_G mi ml))) rfl ⟨trivial, trivial, trivial, trivial⟩ ?_
    refine ab_wi (fun c => ?_) (fun c => ?_)
    · have h := h.1 c
      refine ab_wk 5 (f' := (if (1 : Int32) = 0 then 218 else 199, [some (.ref 40), some (.int y1), some (.int y2), some (.int y3), some (.int y4), some (.int 1)], [], 0, 0, (ab_G mi ml))) rfl ⟨trivial, trivial, trivial, trivial, trivial, trivial⟩ ?_
      refine ab_wif (c := ((1 : Int32) = 0)) (by decide) ?_
      obtain ⟨r17, mi15, ml16, hc, h⟩ := h
      refine ab_wc 3 (c := 212) (as := [.ref 40, .int y3]) (pc := 204) (ll := [some (.ref 40), some (.int y1), some (.int y2), some (.int y3), some (.int y4), some (.int 1)]) (st := []) (c1 := 0) (s1 := 0) (g := (ab_G mi ml)) rfl ⟨trivial, trivial, trivial⟩ hc ?_
      refine ab_wk 1 (f' := (if r17 = 0 then 218 else 207, [some (.ref 40), some (.int y1), some (.int y2), some (.int y3), some (.int y4), some (.int 1)], [], 0, 0, (ab_G mi15 ml16))) rfl ⟨trivial, trivial⟩ ?_
      refine ab_wi (fun c => ?_) (fun c => ?_)
      · have h := h.1 c
        exact ab_wk 2 (f' := (97, [some (.ref 40), some (.int y1), some (.int y2), some (.int (y3 + 1)), some (.int y4), some (.int 1)], [], 0, 0, (ab_G mi15 ml16))) rfl ⟨trivial, trivial, trivial⟩ (ab_drop h (ab_lrc _ (ab_lrc _ (ab_lrc _ (ab_lrc _ (ab_lrn _ (ab_lrn _ ab_lr0)))))))
      · have h := h.2 c
        exact ab_wk 8 (f' := (97, [some (.ref 40), some (.int y1), some (.int y2), some (.int (y3 + 1)), some (.int y4), some (.int 1)], [], 0, 0, (ab_G (ab_ui (ab_ui mi15 40 58 y3) 40 59 y4) ml16))) rfl ⟨trivial, trivial, trivial, trivial, trivial, trivial, trivial, trivial, trivial⟩ (ab_drop h (ab_lrc _ (ab_lrc _ (ab_lrc _ (ab_lrc _ (ab_lrn _ (ab_lrn _ ab_lr0)))))))
    · have h := h.2 c
      refine ab_wk 4 (f' := (if (mi 40 59) < y4 then 187 else 164, [some (.ref 40), some (.int y1), some (.int y2), some (.int y3), some (.int y4), some (.int y5)], [], 0, 0, (ab_G mi ml))) rfl ⟨trivial, trivial, trivial, trivial, trivial⟩ ?_
      refine ab_wi (fun c => ?_) (fun c => ?_)
      · have h := h.1 c
        refine ab_wk 5 (f' := (if (1 : Int32) = 0 then 218 else 199, [some (.ref 40), some (.int y1), some (.int y2), some (.int y3), some (.int y4), some (.int 1)], [], 0, 0, (ab_G mi ml))) rfl ⟨trivial, trivial, trivial, trivial, trivial, trivial⟩ ?_
        refine ab_wif (c := ((1 : Int32) = 0)) (by decide) ?_
        obtain ⟨r20, mi18, ml19, hc, h⟩ := h
        refine ab_wc 3 (c := 212) (as := [.ref 40, .int y3]) (pc := 204) (ll := [some (.ref 40), some (.int y1), some (.int y2), some (.int y3), some (.int y4), some (.int 1)]) (st := []) (c1 := 0) (s1 := 0) (g := (ab_G mi ml)) rfl ⟨trivial, trivial, trivial⟩ hc ?_
        refine ab_wk 1 (f' := (if r20 = 0 then 218 else 207, [some (.ref 40), some (.int y1), some (.int y2), some (.int y3), some (.int y4), some (.int 1)], [], 0, 0, (ab_G mi18 ml19))) rfl ⟨trivial, trivial⟩ ?_
        refine ab_wi (fun c => ?_) (fun c => ?_)
        · have h := h.1 c
          exact ab_wk 2 (f' := (97, [some (.ref 40), some (.int y1), some (.int y2), some (.int (y3 + 1)), some (.int y4), some (.int 1)], [], 0, 0, (ab_G mi18 ml19))) rfl ⟨trivial, trivial, trivial⟩ (ab_drop h (ab_lrc _ (ab_lrc _ (ab_lrc _ (ab_lrc _ (ab_lrn _ (ab_lrn _ ab_lr0)))))))
        · have h := h.2 c
          exact ab_wk 8 (f' := (97, [some (.ref 40), some (.int y1), some (.int y2), some (.int (y3 + 1)), some (.int y4), some (.int 1)], [], 0, 0, (ab_G (ab_ui (ab_ui mi18 40 58 y3) 40 59 y4) ml19))) rfl ⟨trivial, trivial, trivial, trivial, trivial, trivial, trivial, trivial, trivial⟩ (ab_drop h (ab_lrc _ (ab_lrc _ (ab_lrc _ (ab_lrc _ (ab_lrn _ (ab_lrn _ ab_lr0)))))))
      · have h := h.2 c
        refine ab_wk 4 (f' := (if y4 = (mi 40 59) then 173 else 191, [some (.ref 40), some (.int y1), some (.int y2), some (.int y3), some (.int y4), some (.int y5)], [], 0, 0, (ab_G mi ml))) rfl ⟨trivial, trivial, trivial, trivial, trivial⟩ ?_
        refine ab_wi (fun c => ?_) (fun c => ?_)
        · have h := h.1 c
          obtain ⟨r23, mi21, ml22, hc, h⟩ := h
          refine ab_wc 2 (c := 161) (as := [.int y3]) (pc := 177) (ll := [some (.ref 40), some (.int y1), some (.int y2), some (.int y3), some (.int y4), some (.int y5)]) (st := []) (c1 := 0) (s1 := 0) (g := (ab_G mi ml)) rfl ⟨trivial, trivial⟩ hc ?_
          obtain ⟨r26, mi24, ml25, hc, h⟩ := h
          refine ab_wc 3 (c := 161) (as := [.int (mi21 40 58)]) (pc := 184) (ll := [some (.ref 40), some (.int y1), some (.int y2), some (.int y3), some (.int y4), some (.int y5)]) (st := [.int r23]) (c1 := 0) (s1 := 0) (g := (ab_G mi21 ml22)) rfl ⟨trivial, trivial, trivial⟩ hc ?_
          refine ab_wk 1 (f' := (if r23 < r26 then 187 else 191, [some (.ref 40), some (.int y1), some (.int y2), some (.int y3), some (.int y4), some (.int y5)], [], 0, 0, (ab_G mi24 ml25))) rfl ⟨trivial, trivial⟩ ?_
          refine ab_wi (fun c => ?_) (fun c => ?_)
          · have h := h.1 c
            refine ab_wk 5 (f' := (if (1 : Int32) = 0 then 218 else 199, [some (.ref 40), some (.int y1), some (.int y2), some (.int y3), some (.int y4), some (.int 1)], [], 0, 0, (ab_G mi24 ml25))) rfl ⟨trivial, trivial, trivial, trivial, trivial, trivial⟩ ?_
            refine ab_wif (c := ((1 : Int32) = 0)) (by decide) ?_
            obtain ⟨r29, mi27, ml28, hc, h⟩ := h
            refine ab_wc 3 (c := 212) (as := [.ref 40, .int y3]) (pc := 204) (ll := [some (.ref 40), some (.int y1), some (.int y2), some (.int y3), some (.int y4), some (.int 1)]) (st := []) (c1 := 0) (s1 := 0) (g := (ab_G mi24 ml25)) rfl ⟨trivial, trivial, trivial⟩ hc ?_
            refine ab_wk 1 (f' := (if r29 = 0 then 218 else 207, [some (.ref 40), some (.int y1), some (.int y2), some (.int y3), some (.int y4), some (.int 1)], [], 0, 0, (ab_G mi27 ml28))) rfl ⟨trivial, trivial⟩ ?_
            refine ab_wi (fun c => ?_) (fun c => ?_)
            · have h := h.1 c
              exact ab_wk 2 (f' := (97, [some (.ref 40), some (.int y1), some (.int y2), some (.int (y3 + 1)), some (.int y4), some (.int 1)], [], 0, 0, (ab_G mi27 ml28))) rfl ⟨trivial, trivial, trivial⟩ (ab_drop h (ab_lrc _ (ab_lrc _ (ab_lrc _ (ab_lrc _ (ab_lrn _ (ab_lrn _ ab_lr0)))))))
            · have h := h.2 c
              exact ab_wk 8 (f' := (97, [some (.ref 40), some (.int y1), some (.int y2), some (.int (y3 + 1)), some (.int y4), some (.int 1)], [], 0, 0, (ab_G (ab_ui (ab_ui mi27 40 58 y3) 40 59 y4) ml28))) rfl ⟨trivial, trivial, trivial, trivial, trivial, trivial, trivial, trivial, trivial⟩ (ab_drop h (ab_lrc _ (ab_lrc _ (ab_lrc _ (ab_lrc _ (ab_lrn _ (ab_lrn _ ab_lr0)))))))
          · have h := h.2 c
            refine ab_wk 4 (f' := (if (0 : Int32) = 0 then 218 else 199, [some (.ref 40), some (.int y1), some (.int y2), some (.int y3), some (.int y4), some (.int 0)], [], 0, 0, (ab_G mi24 ml25))) rfl ⟨trivial, trivial, trivial, trivial, trivial⟩ ?_
            refine ab_wit (c := ((0 : Int32) = 0)) (by decide) ?_
            exact ab_wk 2 (f' := (97, [some (.ref 40), some (.int y1), some (.int y2), some (.int (y3 + 1)), some (.int y4), some (.int 0)], [], 0, 0, (ab_G mi24 ml25))) rfl ⟨trivial, trivial, trivial⟩ (ab_drop h (ab_lrc _ (ab_lrc _ (ab_lrc _ (ab_lrc _ (ab_lrn _ (ab_lrn _ ab_lr0)))))))
        · have h := h.2 c
          refine ab_wk 4 (f' := (if (0 : Int32) = 0 then 218 else 199, [some (.ref 40), some (.int y1), some (.int y2), some (.int y3), some (.int y4), some (.int 0)], [], 0, 0, (ab_G mi ml))) rfl ⟨trivial, trivial, trivial, trivial, trivial⟩ ?_
          refine ab_wit (c := ((0 : Int32) = 0)) (by decide) ?_
          exact ab_wk 2 (f' := (97, [some (.ref 40), some (.int y1), some (.int y2), some (.int (y3 + 1)), some (.int y4), some (.int 0)], [], 0, 0, (ab_G mi ml))) rfl ⟨trivial, trivial, trivial⟩ (ab_drop h (ab_lrc _ (ab_lrc _ (ab_lrc _ (ab_lrc _ (ab_lrn _ (ab_lrn _ ab_lr0)))))))
theorem vc_X12_draft_0 {call : Nat → List Value → ab_S → Option Value → ab_S → Prop} {ro : ab_E} {Q : Option Value → ab_S → Prop} (x1 : Int32) (x2 : Int32) (mi : Nat → Nat → Int32) (ml : Nat → Nat → Int64)
    (h : ∃ (r3 : Int32) (mi1 : Nat → Nat → Int32) (ml2 : Nat → Nat → Int64), call 178 [.int x1, .int 0, .int 3] (ab_G (ab_ui mi 40 0 0) ml) (some (.int r3)) (ab_G mi1 ml2) ∧ (((r3 = 0) → (Q (some (.int (-1))) (ab_G mi1 ml2))) ∧ (¬ (r3 = 0) → (∃ (r6 : Int32) (mi4 : Nat → Nat → Int32) (ml5 : Nat → Nat → Int64), call 178 [.int x2, .int 0, .int 3] (ab_G mi1 ml2) (some (.int r6)) (ab_G mi4 ml5) ∧ (((r6 = 0) → (Q (some (.int (-1))) (ab_G mi4 ml5))) ∧ (¬ (r6 = 0) → (∃ (mi7 : Nat → Nat → Int32) (ml8 : Nat → Nat → Int64), call 221 [.ref 40, .int x1] (ab_G mi4 ml5) none (ab_G mi7 ml8) ∧ ((((mi7 40 58) < 0) → (Q (some (.int (-1))) (ab_G mi7 ml8))) ∧ (¬ ((mi7 40 58) < 0) → (∃ (mi9 : Nat → Nat → Int32) (ml10 : Nat → Nat → Int64), call 210 [.ref 40, .int (mi7 40 58)] (ab_G mi7 ml8) none (ab_G mi9 ml10) ∧ (∃ (mi11 : Nat → Nat → Int32) (ml12 : Nat → Nat → Int64), call 187 [.ref 40] (ab_G mi9 ml10) none (ab_G mi11 ml12) ∧ (((x2 = 0) → (Q (some (.int (mi11 40 58))) (ab_G mi11 ml12))) ∧ (¬ (x2 = 0) → (((x2 = 1) → (Q (some (.int (mi11 40 59))) (ab_G mi11 ml12))) ∧ (¬ (x2 = 1) → (((x2 = 2) → (Q (some (.int (mi11 40 36))) (ab_G mi11 ml12))) ∧ (¬ (x2 = 2) → (∃ (r15 : Int32) (mi13 : Nat → Nat → Int32) (ml14 : Nat → Nat → Int64), call 191 [.ref 40] (ab_G mi11 ml12) (some (.int r15)) (ab_G mi13 ml14) ∧ (Q (some (.int r15)) (ab_G mi13 ml14)))))))))))))))))))) :
    ab_W call ro 0 0 (ab_lk2 pl_X12_draft) Q (0, [some (.ref 40), some (.int x1), some (.int x2)], [], 0, 0, ab_G mi ml) := by
  obtain ⟨r3, mi1, ml2, hc, h⟩ := h
  refine ab_wc 7 (c := 178) (as := [.int x1, .int 0, .int 3]) (pc := 11) (ll := [some (.ref 40), some (.int x1), some (.int x2)]) (st := []) (c1 := 0) (s1 := 0) (g := (ab_G (ab_ui mi 40 0 0) ml)) rfl ⟨trivial, trivial, trivial, trivial, trivial, trivial, trivial⟩ hc ?_
  refine ab_wk 1 (f' := (if r3 = 0 then 23 else 14, [some (.ref 40), some (.int x1), some (.int x2)], [], 0, 0, (ab_G mi1 ml2))) rfl ⟨trivial, trivial⟩ ?_
  refine ab_wi (fun c => ?_) (fun c => ?_)
  · have h := h.1 c
    exact ab_wr 2 rfl ⟨trivial, trivial⟩ h
  · have h := h.2 c
    obtain ⟨r6, mi4, ml5, hc, h⟩ := h
    refine ab_wc 4 (c := 178) (as := [.int x2, .int 0, .int 3]) (pc := 20) (ll := [some (.ref 40), some (.int x1), some (.int x2)]) (st := []) (c1 := 0) (s1 := 0) (g := (ab_G mi1 ml2)) rfl ⟨trivial, trivial, trivial, trivial⟩ hc ?_
    refine ab_wk 1 (f' := (if r6 = 0 then 23 else 25, [some (.ref 40), some (.int x1), some (.int x2)], [], 0, 0, (ab_G mi4 ml5))) rfl ⟨trivial, trivial⟩ ?_
    refine ab_wi (fun c => ?_) (fun c => ?_)
    · have h := h.1 c
      exact ab_wr 2 rfl ⟨trivial, trivial⟩ h
    · have h := h.2 c
      obtain ⟨mi7, ml8, hc, h⟩ := h
      refine ab_wc 3 (c := 221) (as := [.ref 40, .int x1]) (pc := 30) (ll := [some (.ref 40), some (.int x1), some (.int x2)]) (st := []) (c1 := 0) (s1 := 0) (g := (ab_G mi4 ml5)) rfl ⟨trivial, trivial, trivial⟩ hc ?_
      refine ab_wk 3 (f' := (if (mi7 40 58) < 0 then 37 else 39, [some (.ref 40), some (.int x1), some (.int x2)], [], 0, 0, (ab_G mi7 ml8))) rfl ⟨trivial, trivial, trivial, trivial⟩ ?_
      refine ab_wi (fun c => ?_) (fun c => ?_)
      · have h := h.1 c
        exact ab_wr 2 rfl ⟨trivial, trivial⟩ h
      · have h := h.2 c
        obtain ⟨mi9, ml10, hc, h⟩ := h
        refine ab_wc 4 (c := 210) (as := [.ref 40, .int (mi7 40 58)]) (pc := 47) (ll := [some (.ref 40), some (.int x1), some (.int x2)]) (st := []) (c1 := 0) (s1 := 0) (g := (ab_G mi7 ml8)) rfl ⟨trivial, trivial, trivial, trivial⟩ hc ?_
        obtain ⟨mi11, ml12, hc, h⟩ := h
        refine ab_wc 2 (c := 187) (as := [.ref 40]) (pc := 51) (ll := [some (.ref 40), some (.int x1), some (.int x2)]) (st := []) (c1 := 0) (s1 := 0) (g := (ab_G mi9 ml10)) rfl ⟨trivial, trivial⟩ hc ?_
        refine ab_wk 2 (f' := (if x2 = 0 then 55 else 62, [some (.ref 40), some (.int x1), some (.int x2)], [], 0, 0, (ab_G mi11 ml12))) rfl ⟨trivial, trivial, trivial⟩ ?_
        refine ab_wi (fun c => ?_) (fun c => ?_)
        · have h := h.1 c
          exact ab_wr 4 rfl ⟨trivial, trivial, trivial, trivial⟩ h
        · have h := h.2 c
          refine ab_wk 3 (f' := (if x2 = 1 then 67 else 74, [some (.ref 40), some (.int x1), some (.int x2)], [], 0, 0, (ab_G mi11 ml12))) rfl ⟨trivial, trivial, trivial, trivial⟩ ?_
          refine ab_wi (fun c => ?_) (fun c => ?_)
          · have h := h.1 c
            exact ab_wr 4 rfl ⟨trivial, trivial, trivial, trivial⟩ h
          · have h := h.2 c
            refine ab_wk 3 (f' := (if x2 = 2 then 79 else 86, [some (.ref 40), some (.int x1), some (.int x2)], [], 0, 0, (ab_G mi11 ml12))) rfl ⟨trivial, trivial, trivial, trivial⟩ ?_
            refine ab_wi (fun c => ?_) (fun c => ?_)
            · have h := h.1 c
              exact ab_wr 4 rfl ⟨trivial, trivial, trivial, trivial⟩ h
            · have h := h.2 c
              obtain ⟨r15, mi13, ml14, hc, h⟩ := h
              refine ab_wc 2 (c := 191) (as := [.ref 40]) (pc := 90) (ll := [some (.ref 40), some (.int x1), some (.int x2)]) (st := []) (c1 := 0) (s1 := 0) (g := (ab_G mi11 ml12)) rfl ⟨trivial, trivial⟩ hc ?_
              exact ab_wr 1 rfl trivial h
theorem vc_X12_why_0 {call : Nat → List Value → ab_S → Option Value → ab_S → Prop} {ro : ab_E} {Q : Option Value → ab_S → Prop} (x1 : Int32) (x2 : Int32) (x3 : Int32) (mi : Nat → Nat → Int32) (ml : Nat → Nat → Int64)
    (h : ∃ (r3 : Int32) (mi1 : Nat → Nat → Int32) (ml2 : Nat → Nat → Int64), call 183 [.ref 40, .int x1] (ab_G (ab_ui mi 40 0 0) ml) (some (.int r3)) (ab_G mi1 ml2) ∧ (((r3 = 0) → (Q (some (.int (-1))) (ab_G mi1 ml2))) ∧ (¬ (r3 = 0) → (∃ (r6 : Int32) (mi4 : Nat → Nat → Int32) (ml5 : Nat → Nat → Int64), call 178 [.int x2, .int 0, .int 3] (ab_G mi1 ml2) (some (.int r6)) (ab_G mi4 ml5) ∧ (((r6 = 0) → (Q (some (.int (-1))) (ab_G mi4 ml5))) ∧ (¬ (r6 = 0) → (∃ (r9 : Int32) (mi7 : Nat → Nat → Int32) (ml8 : Nat → Nat → Int64), call 178 [.int x3, .int 0, .int 1] (ab_G mi4 ml5) (some (.int r9)) (ab_G mi7 ml8) ∧ (((r9 = 0) → (Q (some (.int (-1))) (ab_G mi7 ml8))) ∧ (¬ (r9 = 0) → (∃ (mi10 : Nat → Nat → Int32) (ml11 : Nat → Nat → Int64), call 221 [.ref 40, .int x2] (ab_G mi7 ml8) none (ab_G mi10 ml11) ∧ ((((mi10 40 58) < 0) → (Q (some (.int (-1))) (ab_G mi10 ml11))) ∧ (¬ ((mi10 40 58) < 0) → (vp_in x1 30 ∧ ((((((mi10 40 58) >>> ((mi10 68 (x1).toNatClampNeg) &&& 31)) &&& 1) = 1) → (((x3 = 0) → (Q (some (.int 0)) (ab_G mi10 ml11))) ∧ (¬ (x3 = 0) → (Q (some (.int (-1))) (ab_G mi10 ml11))))) ∧ (¬ ((((mi10 40 58) >>> ((mi10 68 (x1).toNatClampNeg) &&& 31)) &&& 1) = 1) → (∃ (r14 : Int32) (mi12 : Nat → Nat → Int32) (ml13 : Nat → Nat → Int64), call 212 [.ref 40, .int ((1 : Int32) <<< ((mi10 68 (x1).toNatClampNeg) &&& 31))] (ab_G mi10 ml11) (some (.int r14)) (ab_G mi12 ml13) ∧ (((r14 = 0) → (((x3 = 0) → (Q (some (.int 1)) (ab_G mi12 ml13))) ∧ (¬ (x3 = 0) → (Q (some (.int (-1))) (ab_G mi12 ml13))))) ∧ (¬ (r14 = 0) → (ab_W call ro 0 0 (ab_lk2 pl_X12_why) Q (102, [some (.ref 40), some (.int x1), some (.int x2), some (.int x3), some (.int (mi10 68 (x1).toNatClampNeg)), some (.int 0)], [], 0, 0, (ab_G mi12 ml13))))))))))))))))))))) :
    ab_W call ro 0 0 (ab_lk2 pl_X12_why) Q (0, [some (.ref 40), some (.int x1), some (.int x2), some (.int x3), none, none], [], 0, 0, ab_G mi ml) := by
  obtain ⟨r3, mi1, ml2, hc, h⟩ := h
  refine ab_wc 6 (c := 183) (as := [.ref 40, .int x1]) (pc := 10) (ll := [some (.ref 40), some (.int x1), some (.int x2), some (.int x3), none, none]) (st := []) (c1 := 0) (s1 := 0) (g := (ab_G (ab_ui mi 40 0 0) ml)) rfl ⟨trivial, trivial, trivial, trivial, trivial, trivial⟩ hc ?_
  refine ab_wk 1 (f' := (if r3 = 0 then 31 else 13, [some (.ref 40), some (.int x1), some (.int x2), some (.int x3), none, none], [], 0, 0, (ab_G mi1 ml2))) rfl ⟨trivial, trivial⟩ ?_
  refine ab_wi (fun c => ?_) (fun c => ?_)
  · have h := h.1 c
    exact ab_wr 2 rfl ⟨trivial, trivial⟩ h
  · have h := h.2 c
    obtain ⟨r6, mi4, ml5, hc, h⟩ := h
    refine ab_wc 4 (c := 178) (as := [.int x2, .int 0, .int 3]) (pc := 19) (ll := [some (.ref 40), some (.int x1), some (.int x2), some (.int x3), none, none]) (st := []) (c1 := 0) (s1 := 0) (g := (ab_G mi1 ml2)) rfl ⟨trivial, trivial, trivial, trivial⟩ hc ?_
    refine ab_wk 1 (f' := (if r6 = 0 then 31 else 22, [some (.ref 40), some (.int x1), some (.int x2), some (.int x3), none, none], [], 0, 0, (ab_G mi4 ml5))) rfl ⟨trivial, trivial⟩ ?_
    refine ab_wi (fun c => ?_) (fun c => ?_)
    · have h := h.1 c
      exact ab_wr 2 rfl ⟨trivial, trivial⟩ h
    · have h := h.2 c
      obtain ⟨r9, mi7, ml8, hc, h⟩ := h
      refine ab_wc 4 (c := 178) (as := [.int x3, .int 0, .int 1]) (pc := 28) (ll := [some (.ref 40), some (.int x1), some (.int x2), some (.int x3), none, none]) (st := []) (c1 := 0) (s1 := 0) (g := (ab_G mi4 ml5)) rfl ⟨trivial, trivial, trivial, trivial⟩ hc ?_
      refine ab_wk 1 (f' := (if r9 = 0 then 31 else 33, [some (.ref 40), some (.int x1), some (.int x2), some (.int x3), none, none], [], 0, 0, (ab_G mi7 ml8))) rfl ⟨trivial, trivial⟩ ?_
      refine ab_wi (fun c => ?_) (fun c => ?_)
      · have h := h.1 c
        exact ab_wr 2 rfl ⟨trivial, trivial⟩ h
      · have h := h.2 c
        obtain ⟨mi10, ml11, hc, h⟩ := h
        refine ab_wc 3 (c := 221) (as := [.ref 40, .int x2]) (pc := 38) (ll := [some (.ref 40), some (.int x1), some (.int x2), some (.int x3), none, none]) (st := []) (c1 := 0) (s1 := 0) (g := (ab_G mi7 ml8)) rfl ⟨trivial, trivial, trivial⟩ hc ?_
        refine ab_wk 3 (f' := (if (mi10 40 58) < 0 then 45 else 47, [some (.ref 40), some (.int x1), some (.int x2), some (.int x3), none, none], [], 0, 0, (ab_G mi10 ml11))) rfl ⟨trivial, trivial, trivial, trivial⟩ ?_
        refine ab_wi (fun c => ?_) (fun c => ?_)
        · have h := h.1 c
          exact ab_wr 2 rfl ⟨trivial, trivial⟩ h
        · have h := h.2 c
          obtain ⟨p0, h⟩ := h
          refine ab_wk 13 (f' := (if (((mi10 40 58) >>> ((mi10 68 (x1).toNatClampNeg) &&& 31)) &&& 1) = 1 then 68 else 78, [some (.ref 40), some (.int x1), some (.int x2), some (.int x3), some (.int (mi10 68 (x1).toNatClampNeg)), none], [], 0, 0, (ab_G mi10 ml11))) rfl ⟨trivial, trivial, trivial, p0, trivial, trivial, trivial, trivial, trivial, trivial, trivial, trivial, trivial, trivial⟩ ?_
          refine ab_wi (fun c => ?_) (fun c => ?_)
          · have h := h.1 c
            refine ab_wk 2 (f' := (if x3 = 0 then 72 else 76, [some (.ref 40), some (.int x1), some (.int x2), some (.int x3), some (.int (mi10 68 (x1).toNatClampNeg)), none], [], 0, 0, (ab_G mi10 ml11))) rfl ⟨trivial, trivial, trivial⟩ ?_
            refine ab_wi (fun c => ?_) (fun c => ?_)
            · have h := h.1 c
              exact ab_wr 3 rfl ⟨trivial, trivial, trivial⟩ h
            · have h := h.2 c
              exact ab_wr 2 rfl ⟨trivial, trivial⟩ h
          · have h := h.2 c
            obtain ⟨r14, mi12, ml13, hc, h⟩ := h
            refine ab_wc 5 (c := 212) (as := [.ref 40, .int ((1 : Int32) <<< ((mi10 68 (x1).toNatClampNeg) &&& 31))]) (pc := 86) (ll := [some (.ref 40), some (.int x1), some (.int x2), some (.int x3), some (.int (mi10 68 (x1).toNatClampNeg)), none]) (st := []) (c1 := 0) (s1 := 0) (g := (ab_G mi10 ml11)) rfl ⟨trivial, trivial, trivial, trivial, trivial⟩ hc ?_
            refine ab_wk 1 (f' := (if r14 = 0 then 89 else 99, [some (.ref 40), some (.int x1), some (.int x2), some (.int x3), some (.int (mi10 68 (x1).toNatClampNeg)), none], [], 0, 0, (ab_G mi12 ml13))) rfl ⟨trivial, trivial⟩ ?_
            refine ab_wi (fun c => ?_) (fun c => ?_)
            · have h := h.1 c
              refine ab_wk 2 (f' := (if x3 = 0 then 93 else 97, [some (.ref 40), some (.int x1), some (.int x2), some (.int x3), some (.int (mi10 68 (x1).toNatClampNeg)), none], [], 0, 0, (ab_G mi12 ml13))) rfl ⟨trivial, trivial, trivial⟩ ?_
              refine ab_wi (fun c => ?_) (fun c => ?_)
              · have h := h.1 c
                exact ab_wr 3 rfl ⟨trivial, trivial, trivial⟩ h
              · have h := h.2 c
                exact ab_wr 2 rfl ⟨trivial, trivial⟩ h
            · have h := h.2 c
              exact ab_wk 2 (f' := (102, [some (.ref 40), some (.int x1), some (.int x2), some (.int x3), some (.int (mi10 68 (x1).toNatClampNeg)), some (.int 0)], [], 0, 0, (ab_G mi12 ml13))) rfl ⟨trivial, trivial, trivial⟩ h
theorem vc_X12_why_102 {call : Nat → List Value → ab_S → Option Value → ab_S → Prop} {ro : ab_E} {Q : Option Value → ab_S → Prop} (y1 : Int32) (y2 : Int32) (y3 : Int32) (y4 : Int32) (y5 : Int32) (mi : Nat → Nat → Int32) (ml : Nat → Nat → Int64)
    (h : ((y5 < (mi 40 45)) → ((((((mi 40 58) >>> (y5 &&& 31)) &&& 1) = 1) → (∃ (r17 : Int32) (mi15 : Nat → Nat → Int32) (ml16 : Nat → Nat → Int64), call 213 [.ref 40, .int y4, .int y5] (ab_G mi ml) (some (.int r17)) (ab_G mi15 ml16) ∧ (((r17 = 0) → (ab_W call ro 0 0 (ab_lk2 pl_X12_why) Q (102, [some (.ref 40), some (.int y1), some (.int y2), some (.int y3), some (.int y4), some (.int (y5 + 1))], [], 0, 0, (ab_G mi15 ml16)))) ∧ (¬ (r17 = 0) → (((y3 = 0) → (Q (some (.int 2)) (ab_G mi15 ml16))) ∧ (¬ (y3 = 0) → (Q (some (.int y5)) (ab_G mi15 ml16)))))))) ∧ (¬ ((((mi 40 58) >>> (y5 &&& 31)) &&& 1) = 1) → (ab_W call ro 0 0 (ab_lk2 pl_X12_why) Q (102, [some (.ref 40), some (.int y1), some (.int y2), some (.int y3), some (.int y4), some (.int (y5 + 1))], [], 0, 0, (ab_G mi ml)))))) ∧ (¬ (y5 < (mi 40 45)) → (((y3 = 1) → (Q (some (.int (-1))) (ab_G mi ml))) ∧ (¬ (y3 = 1) → (∃ (r20 : Int32) (mi18 : Nat → Nat → Int32) (ml19 : Nat → Nat → Int64), call 212 [.ref 40, .int ((mi 40 58) ||| ((1 : Int32) <<< (y4 &&& 31)))] (ab_G mi ml) (some (.int r20)) (ab_G mi18 ml19) ∧ (((r20 = 0) → (Q (some (.int 3)) (ab_G mi18 ml19))) ∧ (¬ (r20 = 0) → (Q (some (.int 4)) (ab_G mi18 ml19))))))))) :
    ab_W call ro 0 0 (ab_lk2 pl_X12_why) Q (102, [some (.ref 40), some (.int y1), some (.int y2), some (.int y3), some (.int y4), some (.int y5)], [], 0, 0, ab_G mi ml) := by
  refine ab_wk 4 (f' := (if y5 < (mi 40 45) then 111 else 152, [some (.ref 40), some (.int y1), some (.int y2), some (.int y3), some (.int y4), some (.int y5)], [], 0, 0, (ab_G mi ml))) rfl ⟨trivial, trivial, trivial, trivial, trivial⟩ ?_
  refine ab_wi (fun c => ?_) (fun c => ?_)
  · have h := h.1 c
    refine ab_wk 8 (f' := (if (((mi 40 58) >>> (y5 &&& 31)) &&& 1) = 1 then 124 else 146, [some (.ref 40), some (.int y1), some (.int y2), some (.int y3), some (.int y4), some (.int y5)], [], 0, 0, (ab_G mi ml))) rfl ⟨trivial, trivial, trivial, trivial, trivial, trivial, trivial, trivial, trivial⟩ ?_
    refine ab_wi (fun c => ?_) (fun c => ?_)
    · have h := h.1 c
      obtain ⟨r17, mi15, ml16, hc, h⟩ := h
      refine ab_wc 4 (c := 213) (as := [.ref 40, .int y4, .int y5]) (pc := 132) (ll := [some (.ref 40), some (.int y1), some (.int y2), some (.int y3), some (.int y4), some (.int y5)]) (st := []) (c1 := 0) (s1 := 0) (g := (ab_G mi ml)) rfl ⟨trivial, trivial, trivial, trivial⟩ hc ?_
      refine ab_wk 1 (f' := (if r17 = 0 then 146 else 135, [some (.ref 40), some (.int y1), some (.int y2), some (.int y3), some (.int y4), some (.int y5)], [], 0, 0, (ab_G mi15 ml16))) rfl ⟨trivial, trivial⟩ ?_
      refine ab_wi (fun c => ?_) (fun c => ?_)
      · have h := h.1 c
        exact ab_wk 2 (f' := (102, [some (.ref 40), some (.int y1), some (.int y2), some (.int y3), some (.int y4), some (.int (y5 + 1))], [], 0, 0, (ab_G mi15 ml16))) rfl ⟨trivial, trivial, trivial⟩ h
      · have h := h.2 c
        refine ab_wk 2 (f' := (if y3 = 0 then 139 else 143, [some (.ref 40), some (.int y1), some (.int y2), some (.int y3), some (.int y4), some (.int y5)], [], 0, 0, (ab_G mi15 ml16))) rfl ⟨trivial, trivial, trivial⟩ ?_
        refine ab_wi (fun c => ?_) (fun c => ?_)
        · have h := h.1 c
          exact ab_wr 3 rfl ⟨trivial, trivial, trivial⟩ h
        · have h := h.2 c
          exact ab_wr 2 rfl ⟨trivial, trivial⟩ h
    · have h := h.2 c
      exact ab_wk 2 (f' := (102, [some (.ref 40), some (.int y1), some (.int y2), some (.int y3), some (.int y4), some (.int (y5 + 1))], [], 0, 0, (ab_G mi ml))) rfl ⟨trivial, trivial, trivial⟩ h
  · have h := h.2 c
    refine ab_wk 3 (f' := (if y3 = 1 then 157 else 161, [some (.ref 40), some (.int y1), some (.int y2), some (.int y3), some (.int y4), some (.int y5)], [], 0, 0, (ab_G mi ml))) rfl ⟨trivial, trivial, trivial, trivial⟩ ?_
    refine ab_wi (fun c => ?_) (fun c => ?_)
    · have h := h.1 c
      exact ab_wr 3 rfl ⟨trivial, trivial, trivial⟩ h
    · have h := h.2 c
      obtain ⟨r20, mi18, ml19, hc, h⟩ := h
      refine ab_wc 8 (c := 212) (as := [.ref 40, .int ((mi 40 58) ||| ((1 : Int32) <<< (y4 &&& 31)))]) (pc := 174) (ll := [some (.ref 40), some (.int y1), some (.int y2), some (.int y3), some (.int y4), some (.int y5)]) (st := []) (c1 := 0) (s1 := 0) (g := (ab_G mi ml)) rfl ⟨trivial, trivial, trivial, trivial, trivial, trivial, trivial, trivial⟩ hc ?_
      refine ab_wk 1 (f' := (if r20 = 0 then 181 else 177, [some (.ref 40), some (.int y1), some (.int y2), some (.int y3), some (.int y4), some (.int y5)], [], 0, 0, (ab_G mi18 ml19))) rfl ⟨trivial, trivial⟩ ?_
      refine ab_wi (fun c => ?_) (fun c => ?_)
      · have h := h.1 c
        exact ab_wr 2 rfl ⟨trivial, trivial⟩ h
      · have h := h.2 c
        exact ab_wr 3 rfl ⟨trivial, trivial, trivial⟩ h
theorem vc_X12_vote_0 {call : Nat → List Value → ab_S → Option Value → ab_S → Prop} {ro : ab_E} {Q : Option Value → ab_S → Prop} (x1 : Int32) (x2 : Int32) (x3 : Int32) (mi : Nat → Nat → Int32) (ml : Nat → Nat → Int64)
    (h : ∃ (r3 : Int32) (mi1 : Nat → Nat → Int32) (ml2 : Nat → Nat → Int64), call 178 [.int x1, .int 0, .int 6] (ab_G (ab_ui mi 40 0 0) ml) (some (.int r3)) (ab_G mi1 ml2) ∧ (((r3 = 0) → (Q (some (.int 0)) (ab_G mi1 ml2))) ∧ (¬ (r3 = 0) → (∃ (r6 : Int32) (mi4 : Nat → Nat → Int32) (ml5 : Nat → Nat → Int64), call 178 [.int x2, .int 0, .int 5] (ab_G mi1 ml2) (some (.int r6)) (ab_G mi4 ml5) ∧ (((r6 = 0) → (Q (some (.int 0)) (ab_G mi4 ml5))) ∧ (¬ (r6 = 0) → (vp_in (((6 : Int32) * x1) + x2) 42 ∧ (Q (some (.int 1)) (ab_G (ab_ui mi4 78 ((((6 : Int32) * x1) + x2)).toNatClampNeg (vp_nar .boolean x3)) ml5))))))))) :
    ab_W call ro 0 0 (ab_lk2 pl_X12_vote) Q (0, [some (.ref 40), some (.int x1), some (.int x2), some (.int x3)], [], 0, 0, ab_G mi ml) := by
  obtain ⟨r3, mi1, ml2, hc, h⟩ := h
  refine ab_wc 7 (c := 178) (as := [.int x1, .int 0, .int 6]) (pc := 12) (ll := [some (.ref 40), some (.int x1), some (.int x2), some (.int x3)]) (st := []) (c1 := 0) (s1 := 0) (g := (ab_G (ab_ui mi 40 0 0) ml)) rfl ⟨trivial, trivial, trivial, trivial, trivial, trivial, trivial⟩ hc ?_
  refine ab_wk 1 (f' := (if r3 = 0 then 24 else 15, [some (.ref 40), some (.int x1), some (.int x2), some (.int x3)], [], 0, 0, (ab_G mi1 ml2))) rfl ⟨trivial, trivial⟩ ?_
  refine ab_wi (fun c => ?_) (fun c => ?_)
  · have h := h.1 c
    exact ab_wr 2 rfl ⟨trivial, (Or.inl rfl)⟩ h
  · have h := h.2 c
    obtain ⟨r6, mi4, ml5, hc, h⟩ := h
    refine ab_wc 4 (c := 178) (as := [.int x2, .int 0, .int 5]) (pc := 21) (ll := [some (.ref 40), some (.int x1), some (.int x2), some (.int x3)]) (st := []) (c1 := 0) (s1 := 0) (g := (ab_G mi1 ml2)) rfl ⟨trivial, trivial, trivial, trivial⟩ hc ?_
    refine ab_wk 1 (f' := (if r6 = 0 then 24 else 26, [some (.ref 40), some (.int x1), some (.int x2), some (.int x3)], [], 0, 0, (ab_G mi4 ml5))) rfl ⟨trivial, trivial⟩ ?_
    refine ab_wi (fun c => ?_) (fun c => ?_)
    · have h := h.1 c
      exact ab_wr 2 rfl ⟨trivial, (Or.inl rfl)⟩ h
    · have h := h.2 c
      obtain ⟨p0, h⟩ := h
      exact ab_wr 11 rfl ⟨trivial, trivial, trivial, trivial, trivial, trivial, trivial, trivial, p0, trivial, (Or.inr rfl)⟩ h
theorem vc_X12_votedMany_0 {call : Nat → List Value → ab_S → Option Value → ab_S → Prop} {ro : ab_E} {Q : Option Value → ab_S → Prop}  (mi : Nat → Nat → Int32) (ml : Nat → Nat → Int64)
    (h : (((mi 40 45) < 6) → (Q (some (.int (mi 40 45))) (ab_G mi ml))) ∧ (¬ ((mi 40 45) < 6) → (Q (some (.int 6)) (ab_G mi ml)))) :
    ab_W call ro 0 0 (ab_lk2 pl_X12_votedMany) Q (0, [some (.ref 40)], [], 0, 0, ab_G mi ml) := by
  refine ab_wk 4 (f' := (if (mi 40 45) < 6 then 9 else 16, [some (.ref 40)], [], 0, 0, (ab_G mi ml))) rfl ⟨trivial, trivial, trivial, trivial, trivial⟩ ?_
  refine ab_wi (fun c => ?_) (fun c => ?_)
  · have h := h.1 c
    exact ab_wr 4 rfl ⟨trivial, trivial, trivial, trivial⟩ h
  · have h := h.2 c
    exact ab_wr 2 rfl ⟨trivial, trivial⟩ h
theorem vc_X12_findGoes_0 {call : Nat → List Value → ab_S → Option Value → ab_S → Prop} {ro : ab_E} {Q : Option Value → ab_S → Prop}  (mi : Nat → Nat → Int32) (ml : Nat → Nat → Int64)
    (h : ∃ (mi1 : Nat → Nat → Int32) (ml2 : Nat → Nat → Int64), call 198 [.ref 40] (ab_G mi ml) none (ab_G mi1 ml2) ∧ (ab_W call ro 0 0 (ab_lk2 pl_X12_findGoes) Q (6, [some (.ref 40), some (.int 0)], [], 0, 0, (ab_G mi1 ml2)))) :
    ab_W call ro 0 0 (ab_lk2 pl_X12_findGoes) Q (0, [some (.ref 40), none], [], 0, 0, ab_G mi ml) := by
  obtain ⟨mi1, ml2, hc, h⟩ := h
  refine ab_wc 2 (c := 198) (as := [.ref 40]) (pc := 4) (ll := [some (.ref 40), none]) (st := []) (c1 := 0) (s1 := 0) (g := (ab_G mi ml)) rfl ⟨trivial, trivial⟩ hc ?_
  exact ab_wk 2 (f' := (6, [some (.ref 40), some (.int 0)], [], 0, 0, (ab_G mi1 ml2))) rfl ⟨trivial, trivial, trivial⟩ h
theorem vc_X12_findGoes_6 {call : Nat → List Value → ab_S → Option Value → ab_S → Prop} {ro : ab_E} {Q : Option Value → ab_S → Prop} (y1 : Int32) (mi : Nat → Nat → Int32) (ml : Nat → Nat → Int64)
    (h : ∃ (r5 : Int32) (mi3 : Nat → Nat → Int32) (ml4 : Nat → Nat → Int64), call 225 [.ref 40] (ab_G mi ml) (some (.int r5)) (ab_G mi3 ml4) ∧ (((y1 < ((1 : Int32) <<< (r5 &&& 31))) → (∃ (r8 : Int32) (mi6 : Nat → Nat → Int32) (ml7 : Nat → Nat → Int64), call 212 [.ref 40, .int y1] (ab_G mi3 ml4) (some (.int r8)) (ab_G mi6 ml7) ∧ (vp_in y1 64 ∧ (ab_W call ro 0 0 (ab_lk2 pl_X12_findGoes) Q (6, [some (.ref 40), some (.int (y1 + 1))], [], 0, 0, (ab_G (ab_ui mi6 79 (y1).toNatClampNeg (vp_nar .boolean r8)) ml7)))))) ∧ (¬ (y1 < ((1 : Int32) <<< (r5 &&& 31))) → (Q none (ab_G mi3 ml4))))) :
    ab_W call ro 0 0 (ab_lk2 pl_X12_findGoes) Q (6, [some (.ref 40), some (.int y1)], [], 0, 0, ab_G mi ml) := by
  obtain ⟨r5, mi3, ml4, hc, h⟩ := h
  refine ab_wc 4 (c := 225) (as := [.ref 40]) (pc := 12) (ll := [some (.ref 40), some (.int y1)]) (st := [.int 1, .int y1]) (c1 := 0) (s1 := 0) (g := (ab_G mi ml)) rfl ⟨trivial, trivial, trivial, trivial⟩ hc ?_
  refine ab_wk 2 (f' := (if y1 < ((1 : Int32) <<< (r5 &&& 31)) then 16 else 33, [some (.ref 40), some (.int y1)], [], 0, 0, (ab_G mi3 ml4))) rfl ⟨trivial, trivial, trivial⟩ ?_
  refine ab_wi (fun c => ?_) (fun c => ?_)
  · have h := h.1 c
    obtain ⟨r8, mi6, ml7, hc, h⟩ := h
    refine ab_wc 6 (c := 212) (as := [.ref 40, .int y1]) (pc := 26) (ll := [some (.ref 40), some (.int y1)]) (st := [.int y1, .ref 79]) (c1 := 0) (s1 := 0) (g := (ab_G mi3 ml4)) rfl ⟨trivial, trivial, trivial, trivial, trivial, trivial⟩ hc ?_
    obtain ⟨p0, h⟩ := h
    exact ab_wk 3 (f' := (6, [some (.ref 40), some (.int (y1 + 1))], [], 0, 0, (ab_G (ab_ui mi6 79 (y1).toNatClampNeg (vp_nar .boolean r8)) ml7))) rfl ⟨p0, trivial, trivial, trivial⟩ h
  · have h := h.2 c
    exact ab_wr 1 rfl trivial h
theorem vc_X12_hasMost_0 {call : Nat → List Value → ab_S → Option Value → ab_S → Prop} {ro : ab_E} {Q : Option Value → ab_S → Prop} (x1 : Int32) (mi : Nat → Nat → Int32) (ml : Nat → Nat → Int64)
    (h : ab_W call ro 0 0 (ab_lk2 pl_X12_hasMost) Q (4, [some (.ref 40), some (.int x1), some (.int 0), some (.int 0)], [], 0, 0, (ab_G mi ml))) :
    ab_W call ro 0 0 (ab_lk2 pl_X12_hasMost) Q (0, [some (.ref 40), some (.int x1), none, none], [], 0, 0, ab_G mi ml) := by
  exact ab_wk 4 (f' := (4, [some (.ref 40), some (.int x1), some (.int 0), some (.int 0)], [], 0, 0, (ab_G mi ml))) rfl ⟨trivial, trivial, trivial, trivial, trivial⟩ h
theorem vc_X12_hasMost_4 {call : Nat → List Value → ab_S → Option Value → ab_S → Prop} {ro : ab_E} {Q : Option Value → ab_S → Prop} (y1 : Int32) (y2 : Int32) (y3 : Int32) (mi : Nat → Nat → Int32) (ml : Nat → Nat → Int64)
    (h : ((y3 < 7) → (vp_in (((6 : Int32) * y3) + y1) 42 ∧ ((((mi 78 ((((6 : Int32) * y3) + y1)).toNatClampNeg) = 0) → (ab_W call ro 0 0 (ab_lk2 pl_X12_hasMost) Q (4, [some (.ref 40), some (.int y1), some (.int (y2 + 0)), some (.int (y3 + 1))], [], 0, 0, (ab_G mi ml)))) ∧ (¬ ((mi 78 ((((6 : Int32) * y3) + y1)).toNatClampNeg) = 0) → (ab_W call ro 0 0 (ab_lk2 pl_X12_hasMost) Q (4, [some (.ref 40), some (.int y1), some (.int (y2 + 1)), some (.int (y3 + 1))], [], 0, 0, (ab_G mi ml))))))) ∧ (¬ (y3 < 7) → (((((7 : Int32) - y2) < y2) → (Q (some (.int 1)) (ab_G mi ml))) ∧ (¬ (((7 : Int32) - y2) < y2) → (Q (some (.int 0)) (ab_G mi ml)))))) :
    ab_W call ro 0 0 (ab_lk2 pl_X12_hasMost) Q (4, [some (.ref 40), some (.int y1), some (.int y2), some (.int y3)], [], 0, 0, ab_G mi ml) := by
  refine ab_wk 3 (f' := (if y3 < 7 then 10 else 38, [some (.ref 40), some (.int y1), some (.int y2), some (.int y3)], [], 0, 0, (ab_G mi ml))) rfl ⟨trivial, trivial, trivial, trivial⟩ ?_
  refine ab_wi (fun c => ?_) (fun c => ?_)
  · have h := h.1 c
    obtain ⟨p0, h⟩ := h
    refine ab_wk 10 (f' := (if (mi 78 ((((6 : Int32) * y3) + y1)).toNatClampNeg) = 0 then 29 else 25, [some (.ref 40), some (.int y1), some (.int y2), some (.int y3)], [.int y2], 0, 0, (ab_G mi ml))) rfl ⟨trivial, trivial, trivial, trivial, trivial, trivial, trivial, trivial, p0, trivial, trivial⟩ ?_
    refine ab_wi (fun c => ?_) (fun c => ?_)
    · have h := h.1 c
      exact ab_wk 5 (f' := (4, [some (.ref 40), some (.int y1), some (.int (y2 + 0)), some (.int (y3 + 1))], [], 0, 0, (ab_G mi ml))) rfl ⟨trivial, trivial, trivial, trivial, trivial, trivial⟩ h
    · have h := h.2 c
      exact ab_wk 6 (f' := (4, [some (.ref 40), some (.int y1), some (.int (y2 + 1)), some (.int (y3 + 1))], [], 0, 0, (ab_G mi ml))) rfl ⟨trivial, trivial, trivial, trivial, trivial, trivial, trivial⟩ h
  · have h := h.2 c
    refine ab_wk 5 (f' := (if ((7 : Int32) - y2) < y2 then 46 else 50, [some (.ref 40), some (.int y1), some (.int y2), some (.int y3)], [], 0, 0, (ab_G mi ml))) rfl ⟨trivial, trivial, trivial, trivial, trivial, trivial⟩ ?_
    refine ab_wi (fun c => ?_) (fun c => ?_)
    · have h := h.1 c
      exact ab_wr 3 rfl ⟨trivial, trivial, (Or.inr rfl)⟩ h
    · have h := h.2 c
      exact ab_wr 2 rfl ⟨trivial, (Or.inl rfl)⟩ h
theorem vc_X12_puts_0 {call : Nat → List Value → ab_S → Option Value → ab_S → Prop} {ro : ab_E} {Q : Option Value → ab_S → Prop} (x1 : Int32) (x2 : Int32) (mi : Nat → Nat → Int32) (ml : Nat → Nat → Int64)
    (h : ∃ (r3 : Int32) (mi1 : Nat → Nat → Int32) (ml2 : Nat → Nat → Int64), call 227 [.ref 40, .int x2] (ab_G mi ml) (some (.int r3)) (ab_G mi1 ml2) ∧ (((r3 = 0) → (Q (some (.int x1)) (ab_G mi1 ml2))) ∧ (¬ (r3 = 0) → (vp_in (x1 ||| ((1 : Int32) <<< (x2 &&& 31))) 64 ∧ ((((mi1 79 ((x1 ||| ((1 : Int32) <<< (x2 &&& 31)))).toNatClampNeg) = 0) → (Q (some (.int x1)) (ab_G mi1 ml2))) ∧ (¬ ((mi1 79 ((x1 ||| ((1 : Int32) <<< (x2 &&& 31)))).toNatClampNeg) = 0) → (Q (some (.int (x1 ||| ((1 : Int32) <<< (x2 &&& 31))))) (ab_G mi1 ml2)))))))) :
    ab_W call ro 0 0 (ab_lk2 pl_X12_puts) Q (0, [some (.ref 40), some (.int x1), some (.int x2)], [], 0, 0, ab_G mi ml) := by
  obtain ⟨r3, mi1, ml2, hc, h⟩ := h
  refine ab_wc 3 (c := 227) (as := [.ref 40, .int x2]) (pc := 5) (ll := [some (.ref 40), some (.int x1), some (.int x2)]) (st := []) (c1 := 0) (s1 := 0) (g := (ab_G mi ml)) rfl ⟨trivial, trivial, trivial⟩ hc ?_
  refine ab_wk 1 (f' := (if r3 = 0 then 29 else 8, [some (.ref 40), some (.int x1), some (.int x2)], [], 0, 0, (ab_G mi1 ml2))) rfl ⟨trivial, trivial⟩ ?_
  refine ab_wi (fun c => ?_) (fun c => ?_)
  · have h := h.1 c
    exact ab_wr 2 rfl ⟨trivial, trivial⟩ h
  · have h := h.2 c
    obtain ⟨p0, h⟩ := h
    refine ab_wk 9 (f' := (if (mi1 79 ((x1 ||| ((1 : Int32) <<< (x2 &&& 31)))).toNatClampNeg) = 0 then 29 else 21, [some (.ref 40), some (.int x1), some (.int x2)], [], 0, 0, (ab_G mi1 ml2))) rfl ⟨trivial, trivial, trivial, trivial, trivial, trivial, trivial, p0, trivial, trivial⟩ ?_
    refine ab_wi (fun c => ?_) (fun c => ?_)
    · have h := h.1 c
      exact ab_wr 2 rfl ⟨trivial, trivial⟩ h
    · have h := h.2 c
      exact ab_wr 7 rfl ⟨trivial, trivial, trivial, trivial, trivial, trivial, trivial⟩ h
theorem vc_X12_orders_0 {call : Nat → List Value → ab_S → Option Value → ab_S → Prop} {ro : ab_E} {Q : Option Value → ab_S → Prop} (x1 : Int32) (x2 : Int32) (mi : Nat → Nat → Int32) (ml : Nat → Nat → Int64)
    (h : ab_W call ro 0 0 (ab_lk2 pl_X12_orders) Q (5, [some (.ref 40), some (.int x1), some (.int x2), some (.int 1), some (.int 0)], [], 0, 0, (ab_G mi ml))) :
    ab_W call ro 0 0 (ab_lk2 pl_X12_orders) Q (0, [some (.ref 40), some (.int x1), some (.int x2), none, none], [], 0, 0, ab_G mi ml) := by
  exact ab_wk 4 (f' := (5, [some (.ref 40), some (.int x1), some (.int x2), some (.int 1), some (.int 0)], [], 0, 0, (ab_G mi ml))) rfl ⟨trivial, trivial, trivial, trivial, trivial⟩ h
theorem vc_X12_orders_5 {call : Nat → List Value → ab_S → Option Value → ab_S → Prop} {ro : ab_E} {Q : Option Value → ab_S → Prop} (y1 : Int32) (y2 : Int32) (y3 : Int32) (y4 : Int32) (mi : Nat → Nat → Int32) (ml : Nat → Nat → Int64)
    (h : ∃ (r3 : Int32) (mi1 : Nat → Nat → Int32) (ml2 : Nat → Nat → Int64), call 225 [.ref 40] (ab_G mi ml) (some (.int r3)) (ab_G mi1 ml2) ∧ (((y4 < r3) → (((((y1 >>> (y4 &&& 31)) &&& 1) = 0) → (∃ (r6 : Int32) (mi4 : Nat → Nat → Int32) (ml5 : Nat → Nat → Int64), call 228 [.ref 40, .int y2, .int y4] (ab_G mi1 ml2) (some (.int r6)) (ab_G mi4 ml5) ∧ (∃ (mi7 : Nat → Nat → Int32) (ml8 : Nat → Nat → Int64), call 229 [.ref 40, .int (y1 ||| ((1 : Int32) <<< (y4 &&& 31))), .int r6] (ab_G mi4 ml5) none (ab_G mi7 ml8) ∧ (ab_W call ro 0 0 (ab_lk2 pl_X12_orders) Q (5, [some (.ref 40), some (.int y1), some (.int y2), some (.int 0), some (.int (y4 + 1))], [], 0, 0, (ab_G mi7 ml8)))))) ∧ (¬ (((y1 >>> (y4 &&& 31)) &&& 1) = 0) → (ab_W call ro 0 0 (ab_lk2 pl_X12_orders) Q (5, [some (.ref 40), some (.int y1), some (.int y2), some (.int y3), some (.int (y4 + 1))], [], 0, 0, (ab_G mi1 ml2)))))) ∧ (¬ (y4 < r3) → (((y3 = 0) → (Q none (ab_G mi1 ml2))) ∧ (¬ (y3 = 0) → (vp_in y2 64 ∧ (Q none (ab_G (ab_ui (ab_ui (ab_ui mi1 80 (y2).toNatClampNeg (vp_nar .boolean 1)) 40 63 ((mi1 40 63) &&& y2)) 40 64 ((mi1 40 64) ||| y2)) ml2)))))))) :
    ab_W call ro 0 0 (ab_lk2 pl_X12_orders) Q (5, [some (.ref 40), some (.int y1), some (.int y2), some (.int y3), some (.int y4)], [], 0, 0, ab_G mi ml) := by
  obtain ⟨r3, mi1, ml2, hc, h⟩ := h
  refine ab_wc 3 (c := 225) (as := [.ref 40]) (pc := 11) (ll := [some (.ref 40), some (.int y1), some (.int y2), some (.int y3), some (.int y4)]) (st := [.int y4]) (c1 := 0) (s1 := 0) (g := (ab_G mi ml)) rfl ⟨trivial, trivial, trivial⟩ hc ?_
  refine ab_wk 1 (f' := (if y4 < r3 then 14 else 48, [some (.ref 40), some (.int y1), some (.int y2), some (.int y3), some (.int y4)], [], 0, 0, (ab_G mi1 ml2))) rfl ⟨trivial, trivial⟩ ?_
  refine ab_wi (fun c => ?_) (fun c => ?_)
  · have h := h.1 c
    refine ab_wk 6 (f' := (if ((y1 >>> (y4 &&& 31)) &&& 1) = 0 then 23 else 42, [some (.ref 40), some (.int y1), some (.int y2), some (.int y3), some (.int y4)], [], 0, 0, (ab_G mi1 ml2))) rfl ⟨trivial, trivial, trivial, trivial, trivial, trivial, trivial⟩ ?_
    refine ab_wi (fun c => ?_) (fun c => ?_)
    · have h := h.1 c
      obtain ⟨r6, mi4, ml5, hc, h⟩ := h
      refine ab_wc 12 (c := 228) (as := [.ref 40, .int y2, .int y4]) (pc := 39) (ll := [some (.ref 40), some (.int y1), some (.int y2), some (.int 0), some (.int y4)]) (st := [.int (y1 ||| ((1 : Int32) <<< (y4 &&& 31))), .ref 40]) (c1 := 0) (s1 := 0) (g := (ab_G mi1 ml2)) rfl ⟨trivial, trivial, trivial, trivial, trivial, trivial, trivial, trivial, trivial, trivial, trivial, trivial⟩ hc ?_
      obtain ⟨mi7, ml8, hc, h⟩ := h
      refine ab_wc 1 (c := 229) (as := [.ref 40, .int (y1 ||| ((1 : Int32) <<< (y4 &&& 31))), .int r6]) (pc := 42) (ll := [some (.ref 40), some (.int y1), some (.int y2), some (.int 0), some (.int y4)]) (st := []) (c1 := 0) (s1 := 0) (g := (ab_G mi4 ml5)) rfl trivial hc ?_
      exact ab_wk 2 (f' := (5, [some (.ref 40), some (.int y1), some (.int y2), some (.int 0), some (.int (y4 + 1))], [], 0, 0, (ab_G mi7 ml8))) rfl ⟨trivial, trivial, trivial⟩ h
    · have h := h.2 c
      exact ab_wk 2 (f' := (5, [some (.ref 40), some (.int y1), some (.int y2), some (.int y3), some (.int (y4 + 1))], [], 0, 0, (ab_G mi1 ml2))) rfl ⟨trivial, trivial, trivial⟩ h
  · have h := h.2 c
    refine ab_wk 2 (f' := (if y3 = 0 then 79 else 52, [some (.ref 40), some (.int y1), some (.int y2), some (.int y3), some (.int y4)], [], 0, 0, (ab_G mi1 ml2))) rfl ⟨trivial, trivial, trivial⟩ ?_
    refine ab_wi (fun c => ?_) (fun c => ?_)
    · have h := h.1 c
      exact ab_wr 1 rfl trivial h
    · have h := h.2 c
      obtain ⟨p0, h⟩ := h
      exact ab_wr 18 rfl ⟨trivial, trivial, trivial, trivial, p0, trivial, trivial, trivial, trivial, trivial, trivial, trivial, trivial, trivial, trivial, trivial, trivial, trivial⟩ h
theorem vc_X12_firstResult_0 {call : Nat → List Value → ab_S → Option Value → ab_S → Prop} {ro : ab_E} {Q : Option Value → ab_S → Prop}  (mi : Nat → Nat → Int32) (ml : Nat → Nat → Int64)
    (h : ab_W call ro 0 0 (ab_lk2 pl_X12_firstResult) Q (4, [some (.ref 40), some (.int 0), some (.int 0)], [], 0, 0, (ab_G mi ml))) :
    ab_W call ro 0 0 (ab_lk2 pl_X12_firstResult) Q (0, [some (.ref 40), none, none], [], 0, 0, ab_G mi ml) := by
  exact ab_wk 4 (f' := (4, [some (.ref 40), some (.int 0), some (.int 0)], [], 0, 0, (ab_G mi ml))) rfl ⟨trivial, trivial, trivial, trivial, trivial⟩ h
theorem vc_X12_firstResult_4 {call : Nat → List Value → ab_S → Option Value → ab_S → Prop} {ro : ab_E} {Q : Option Value → ab_S → Prop} (y1 : Int32) (y2 : Int32) (mi : Nat → Nat → Int32) (ml : Nat → Nat → Int64)
    (h : ∃ (r3 : Int32) (mi1 : Nat → Nat → Int32) (ml2 : Nat → Nat → Int64), call 225 [.ref 40] (ab_G mi ml) (some (.int r3)) (ab_G mi1 ml2) ∧ (((y2 < r3) → (∃ (r6 : Int32) (mi4 : Nat → Nat → Int32) (ml5 : Nat → Nat → Int64), call 228 [.ref 40, .int y1, .int y2] (ab_G mi1 ml2) (some (.int r6)) (ab_G mi4 ml5) ∧ (ab_W call ro 0 0 (ab_lk2 pl_X12_firstResult) Q (4, [some (.ref 40), some (.int r6), some (.int (y2 + 1))], [], 0, 0, (ab_G mi4 ml5))))) ∧ (¬ (y2 < r3) → (Q (some (.int y1)) (ab_G mi1 ml2))))) :
    ab_W call ro 0 0 (ab_lk2 pl_X12_firstResult) Q (4, [some (.ref 40), some (.int y1), some (.int y2)], [], 0, 0, ab_G mi ml) := by
  obtain ⟨r3, mi1, ml2, hc, h⟩ := h
  refine ab_wc 3 (c := 225) (as := [.ref 40]) (pc := 9) (ll := [some (.ref 40), some (.int y1), some (.int y2)]) (st := [.int y2]) (c1 := 0) (s1 := 0) (g := (ab_G mi ml)) rfl ⟨trivial, trivial, trivial⟩ hc ?_
  refine ab_wk 1 (f' := (if y2 < r3 then 12 else 25, [some (.ref 40), some (.int y1), some (.int y2)], [], 0, 0, (ab_G mi1 ml2))) rfl ⟨trivial, trivial⟩ ?_
  refine ab_wi (fun c => ?_) (fun c => ?_)
  · have h := h.1 c
    obtain ⟨r6, mi4, ml5, hc, h⟩ := h
    refine ab_wc 4 (c := 228) (as := [.ref 40, .int y1, .int y2]) (pc := 18) (ll := [some (.ref 40), some (.int y1), some (.int y2)]) (st := []) (c1 := 0) (s1 := 0) (g := (ab_G mi1 ml2)) rfl ⟨trivial, trivial, trivial, trivial⟩ hc ?_
    exact ab_wk 3 (f' := (4, [some (.ref 40), some (.int r6), some (.int (y2 + 1))], [], 0, 0, (ab_G mi4 ml5))) rfl ⟨trivial, trivial, trivial, trivial⟩ h
  · have h := h.2 c
    exact ab_wr 2 rfl ⟨trivial, trivial⟩ h
theorem vc_X12_votes_0 {call : Nat → List Value → ab_S → Option Value → ab_S → Prop} {ro : ab_E} {Q : Option Value → ab_S → Prop} (x1 : Int32) (mi : Nat → Nat → Int32) (ml : Nat → Nat → Int64)
    (h : ∃ (r3 : Int32) (mi1 : Nat → Nat → Int32) (ml2 : Nat → Nat → Int64), call 178 [.int x1, .int 0, .int 3] (ab_G (ab_ui mi 40 0 0) ml) (some (.int r3)) (ab_G mi1 ml2) ∧ (((r3 = 0) → (Q (some (.int (-1))) (ab_G mi1 ml2))) ∧ (¬ (r3 = 0) → (∃ (mi4 : Nat → Nat → Int32) (ml5 : Nat → Nat → Int64), call 226 [.ref 40] (ab_G mi1 ml2) none (ab_G mi4 ml5) ∧ (((x1 = 3) → (∃ (r8 : Int32) (mi6 : Nat → Nat → Int32) (ml7 : Nat → Nat → Int64), call 230 [.ref 40] (ab_G mi4 ml5) (some (.int r8)) (ab_G mi6 ml7) ∧ (Q (some (.int r8)) (ab_G mi6 ml7)))) ∧ (¬ (x1 = 3) → (ab_W call ro 0 0 (ab_lk2 pl_X12_votes) Q (32, [some (.ref 40), some (.int x1), some (.int 0), none], [], 0, 0, (ab_G mi4 ml5))))))))) :
    ab_W call ro 0 0 (ab_lk2 pl_X12_votes) Q (0, [some (.ref 40), some (.int x1), none, none], [], 0, 0, ab_G mi ml) := by
  obtain ⟨r3, mi1, ml2, hc, h⟩ := h
  refine ab_wc 7 (c := 178) (as := [.int x1, .int 0, .int 3]) (pc := 11) (ll := [some (.ref 40), some (.int x1), none, none]) (st := []) (c1 := 0) (s1 := 0) (g := (ab_G (ab_ui mi 40 0 0) ml)) rfl ⟨trivial, trivial, trivial, trivial, trivial, trivial, trivial⟩ hc ?_
  refine ab_wk 1 (f' := (if r3 = 0 then 14 else 16, [some (.ref 40), some (.int x1), none, none], [], 0, 0, (ab_G mi1 ml2))) rfl ⟨trivial, trivial⟩ ?_
  refine ab_wi (fun c => ?_) (fun c => ?_)
  · have h := h.1 c
    exact ab_wr 2 rfl ⟨trivial, trivial⟩ h
  · have h := h.2 c
    obtain ⟨mi4, ml5, hc, h⟩ := h
    refine ab_wc 2 (c := 226) (as := [.ref 40]) (pc := 20) (ll := [some (.ref 40), some (.int x1), none, none]) (st := []) (c1 := 0) (s1 := 0) (g := (ab_G mi1 ml2)) rfl ⟨trivial, trivial⟩ hc ?_
    refine ab_wk 3 (f' := (if x1 = 3 then 25 else 30, [some (.ref 40), some (.int x1), none, none], [], 0, 0, (ab_G mi4 ml5))) rfl ⟨trivial, trivial, trivial, trivial⟩ ?_
    refine ab_wi (fun c => ?_) (fun c => ?_)
    · have h := h.1 c
      obtain ⟨r8, mi6, ml7, hc, h⟩ := h
      refine ab_wc 2 (c := 230) (as := [.ref 40]) (pc := 29) (ll := [some (.ref 40), some (.int x1), none, none]) (st := []) (c1 := 0) (s1 := 0) (g := (ab_G mi4 ml5)) rfl ⟨trivial, trivial⟩ hc ?_
      exact ab_wr 1 rfl trivial h
    · have h := h.2 c
      exact ab_wk 2 (f' := (32, [some (.ref 40), some (.int x1), some (.int 0), none], [], 0, 0, (ab_G mi4 ml5))) rfl ⟨trivial, trivial, trivial⟩ h
theorem vc_X12_votes_32 {call : Nat → List Value → ab_S → Option Value → ab_S → Prop} {ro : ab_E} {Q : Option Value → ab_S → Prop} (y1 : Int32) (y2 : Int32) (mi : Nat → Nat → Int32) (ml : Nat → Nat → Int64)
    (h : ((y2 < 64) → (vp_in y2 64 ∧ (ab_W call ro 0 0 (ab_lk2 pl_X12_votes) Q (32, [some (.ref 40), some (.int y1), some (.int (y2 + 1)), none], [], 0, 0, (ab_G (ab_ui mi 80 (y2).toNatClampNeg (vp_nar .boolean 0)) ml))))) ∧ (¬ (y2 < 64) → (∃ (mi9 : Nat → Nat → Int32) (ml10 : Nat → Nat → Int64), call 229 [.ref 40, .int 0, .int 0] (ab_G (ab_ui (ab_ui mi 40 63 63) 40 64 0) ml) none (ab_G mi9 ml10) ∧ (ab_W call ro 0 0 (ab_lk2 pl_X12_votes) Q (72, [some (.ref 40), some (.int y1), some (.int 0), some (.int 0)], [], 0, 0, (ab_G mi9 ml10)))))) :
    ab_W call ro 0 0 (ab_lk2 pl_X12_votes) Q (32, [some (.ref 40), some (.int y1), some (.int y2), none], [], 0, 0, ab_G mi ml) := by
  refine ab_wk 3 (f' := (if y2 < 64 then 38 else 51, [some (.ref 40), some (.int y1), some (.int y2), none], [], 0, 0, (ab_G mi ml))) rfl ⟨trivial, trivial, trivial, trivial⟩ ?_
  refine ab_wi (fun c => ?_) (fun c => ?_)
  · have h := h.1 c
    obtain ⟨p0, h⟩ := h
    exact ab_wk 7 (f' := (32, [some (.ref 40), some (.int y1), some (.int (y2 + 1)), none], [], 0, 0, (ab_G (ab_ui mi 80 (y2).toNatClampNeg (vp_nar .boolean 0)) ml))) rfl ⟨trivial, trivial, trivial, trivial, p0, trivial, trivial, trivial⟩ h
  · have h := h.2 c
    obtain ⟨mi9, ml10, hc, h⟩ := h
    refine ab_wc 10 (c := 229) (as := [.ref 40, .int 0, .int 0]) (pc := 68) (ll := [some (.ref 40), some (.int y1), some (.int y2), none]) (st := []) (c1 := 0) (s1 := 0) (g := (ab_G (ab_ui (ab_ui mi 40 63 63) 40 64 0) ml)) rfl ⟨trivial, trivial, trivial, trivial, trivial, trivial, trivial, trivial, trivial, trivial⟩ hc ?_
    exact ab_wk 4 (f' := (72, [some (.ref 40), some (.int y1), some (.int 0), some (.int 0)], [], 0, 0, (ab_G mi9 ml10))) rfl ⟨trivial, trivial, trivial, trivial, trivial⟩ h
theorem vc_X12_votes_72 {call : Nat → List Value → ab_S → Option Value → ab_S → Prop} {ro : ab_E} {Q : Option Value → ab_S → Prop} (y1 : Int32) (y2 : Int32) (y3 : Int32) (mi : Nat → Nat → Int32) (ml : Nat → Nat → Int64)
    (h : ((y3 < 64) → (vp_in y3 64 ∧ ((((mi 80 (y3).toNatClampNeg) = 0) → (ab_W call ro 0 0 (ab_lk2 pl_X12_votes) Q (72, [some (.ref 40), some (.int y1), some (.int (y2 + 0)), some (.int (y3 + 1))], [], 0, 0, (ab_G mi ml)))) ∧ (¬ ((mi 80 (y3).toNatClampNeg) = 0) → (ab_W call ro 0 0 (ab_lk2 pl_X12_votes) Q (72, [some (.ref 40), some (.int y1), some (.int (y2 + 1)), some (.int (y3 + 1))], [], 0, 0, (ab_G mi ml))))))) ∧ (¬ (y3 < 64) → (((y1 = 0) → (Q (some (.int (mi 40 63))) (ab_G mi ml))) ∧ (¬ (y1 = 0) → (((y1 = 1) → (Q (some (.int (mi 40 64))) (ab_G mi ml))) ∧ (¬ (y1 = 1) → (Q (some (.int y2)) (ab_G mi ml)))))))) :
    ab_W call ro 0 0 (ab_lk2 pl_X12_votes) Q (72, [some (.ref 40), some (.int y1), some (.int y2), some (.int y3)], [], 0, 0, ab_G mi ml) := by
  refine ab_wk 3 (f' := (if y3 < 64 then 78 else 101, [some (.ref 40), some (.int y1), some (.int y2), some (.int y3)], [], 0, 0, (ab_G mi ml))) rfl ⟨trivial, trivial, trivial, trivial⟩ ?_
  refine ab_wi (fun c => ?_) (fun c => ?_)
  · have h := h.1 c
    obtain ⟨p0, h⟩ := h
    refine ab_wk 6 (f' := (if (mi 80 (y3).toNatClampNeg) = 0 then 92 else 88, [some (.ref 40), some (.int y1), some (.int y2), some (.int y3)], [.int y2], 0, 0, (ab_G mi ml))) rfl ⟨trivial, trivial, trivial, trivial, p0, trivial, trivial⟩ ?_
    refine ab_wi (fun c => ?_) (fun c => ?_)
    · have h := h.1 c
      exact ab_wk 5 (f' := (72, [some (.ref 40), some (.int y1), some (.int (y2 + 0)), some (.int (y3 + 1))], [], 0, 0, (ab_G mi ml))) rfl ⟨trivial, trivial, trivial, trivial, trivial, trivial⟩ h
    · have h := h.2 c
      exact ab_wk 6 (f' := (72, [some (.ref 40), some (.int y1), some (.int (y2 + 1)), some (.int (y3 + 1))], [], 0, 0, (ab_G mi ml))) rfl ⟨trivial, trivial, trivial, trivial, trivial, trivial, trivial⟩ h
  · have h := h.2 c
    refine ab_wk 2 (f' := (if y1 = 0 then 105 else 112, [some (.ref 40), some (.int y1), some (.int y2), some (.int y3)], [], 0, 0, (ab_G mi ml))) rfl ⟨trivial, trivial, trivial⟩ ?_
    refine ab_wi (fun c => ?_) (fun c => ?_)
    · have h := h.1 c
      exact ab_wr 4 rfl ⟨trivial, trivial, trivial, trivial⟩ h
    · have h := h.2 c
      refine ab_wk 3 (f' := (if y1 = 1 then 117 else 124, [some (.ref 40), some (.int y1), some (.int y2), some (.int y3)], [], 0, 0, (ab_G mi ml))) rfl ⟨trivial, trivial, trivial, trivial⟩ ?_
      refine ab_wi (fun c => ?_) (fun c => ?_)
      · have h := h.1 c
        exact ab_wr 4 rfl ⟨trivial, trivial, trivial, trivial⟩ h
      · have h := h.2 c
        exact ab_wr 2 rfl ⟨trivial, trivial⟩ h
theorem vc_X12_gain_0 {call : Nat → List Value → ab_S → Option Value → ab_S → Prop} {ro : ab_E} {Q : Option Value → ab_S → Prop} (x1 : Int32) (mi : Nat → Nat → Int32) (ml : Nat → Nat → Int64)
    (h : ∃ (r3 : Int32) (mi1 : Nat → Nat → Int32) (ml2 : Nat → Nat → Int64), call 178 [.int x1, .int 0, .int 6] (ab_G (ab_ui mi 40 0 0) ml) (some (.int r3)) (ab_G mi1 ml2) ∧ (((r3 = 0) → (Q (some (.int (-1))) (ab_G mi1 ml2))) ∧ (¬ (r3 = 0) → (∃ (mi4 : Nat → Nat → Int32) (ml5 : Nat → Nat → Int64), call 226 [.ref 40] (ab_G mi1 ml2) none (ab_G mi4 ml5) ∧ (∃ (r8 : Int32) (mi6 : Nat → Nat → Int32) (ml7 : Nat → Nat → Int64), call 234 [.ref 40, .int x1] (ab_G mi4 ml5) (some (.int r8)) (ab_G mi6 ml7) ∧ (∃ (r11 : Int32) (mi9 : Nat → Nat → Int32) (ml10 : Nat → Nat → Int64), call 230 [.ref 40] (ab_G mi6 ml7) (some (.int r11)) (ab_G mi9 ml10) ∧ (∃ (r14 : Int32) (mi12 : Nat → Nat → Int32) (ml13 : Nat → Nat → Int64), call 161 [.int (r11 &&& r8)] (ab_G mi9 ml10) (some (.int r14)) (ab_G mi12 ml13) ∧ (ab_W call ro 0 0 (ab_lk2 pl_X12_gain) Q (43, [some (.ref 40), some (.int x1), some (.int r8), some (.int r14), some (.int (-1)), some (.int 0)], [], 0, 0, (ab_G mi12 ml13)))))))))) :
    ab_W call ro 0 0 (ab_lk2 pl_X12_gain) Q (0, [some (.ref 40), some (.int x1), none, none, none, none], [], 0, 0, ab_G mi ml) := by
  obtain ⟨r3, mi1, ml2, hc, h⟩ := h
  refine ab_wc 7 (c := 178) (as := [.int x1, .int 0, .int 6]) (pc := 12) (ll := [some (.ref 40), some (.int x1), none, none, none, none]) (st := []) (c1 := 0) (s1 := 0) (g := (ab_G (ab_ui mi 40 0 0) ml)) rfl ⟨trivial, trivial, trivial, trivial, trivial, trivial, trivial⟩ hc ?_
  refine ab_wk 1 (f' := (if r3 = 0 then 15 else 17, [some (.ref 40), some (.int x1), none, none, none, none], [], 0, 0, (ab_G mi1 ml2))) rfl ⟨trivial, trivial⟩ ?_
  refine ab_wi (fun c => ?_) (fun c => ?_)
  · have h := h.1 c
    exact ab_wr 2 rfl ⟨trivial, trivial⟩ h
  · have h := h.2 c
    obtain ⟨mi4, ml5, hc, h⟩ := h
    refine ab_wc 2 (c := 226) (as := [.ref 40]) (pc := 21) (ll := [some (.ref 40), some (.int x1), none, none, none, none]) (st := []) (c1 := 0) (s1 := 0) (g := (ab_G mi1 ml2)) rfl ⟨trivial, trivial⟩ hc ?_
    obtain ⟨r8, mi6, ml7, hc, h⟩ := h
    refine ab_wc 3 (c := 234) (as := [.ref 40, .int x1]) (pc := 26) (ll := [some (.ref 40), some (.int x1), none, none, none, none]) (st := []) (c1 := 0) (s1 := 0) (g := (ab_G mi4 ml5)) rfl ⟨trivial, trivial, trivial⟩ hc ?_
    obtain ⟨r11, mi9, ml10, hc, h⟩ := h
    refine ab_wc 3 (c := 230) (as := [.ref 40]) (pc := 31) (ll := [some (.ref 40), some (.int x1), some (.int r8), none, none, none]) (st := []) (c1 := 0) (s1 := 0) (g := (ab_G mi6 ml7)) rfl ⟨trivial, trivial, trivial⟩ hc ?_
    obtain ⟨r14, mi12, ml13, hc, h⟩ := h
    refine ab_wc 3 (c := 161) (as := [.int (r11 &&& r8)]) (pc := 36) (ll := [some (.ref 40), some (.int x1), some (.int r8), none, none, none]) (st := []) (c1 := 0) (s1 := 0) (g := (ab_G mi9 ml10)) rfl ⟨trivial, trivial, trivial⟩ hc ?_
    exact ab_wk 5 (f' := (43, [some (.ref 40), some (.int x1), some (.int r8), some (.int r14), some (.int (-1)), some (.int 0)], [], 0, 0, (ab_G mi12 ml13))) rfl ⟨trivial, trivial, trivial, trivial, trivial, trivial⟩ h
theorem vc_X12_gain_43 {call : Nat → List Value → ab_S → Option Value → ab_S → Prop} {ro : ab_E} {Q : Option Value → ab_S → Prop} (y1 : Int32) (y2 : Int32) (y3 : Int32) (y4 : Int32) (y5 : Int32) (mi : Nat → Nat → Int32) (ml : Nat → Nat → Int64)
    (h : ∃ (r17 : Int32) (mi15 : Nat → Nat → Int32) (ml16 : Nat → Nat → Int64), call 225 [.ref 40] (ab_G mi ml) (some (.int r17)) (ab_G mi15 ml16) ∧ (((y5 < r17) → (((y4 < 0) → (vp_in (((6 : Int32) * y1) + y5) 42 ∧ ((((mi15 78 ((((6 : Int32) * y1) + y5)).toNatClampNeg) = 0) → (vp_in (((6 : Int32) * y1) + y5) 42 ∧ (∃ (r20 : Int32) (mi18 : Nat → Nat → Int32) (ml19 : Nat → Nat → Int64), call 230 [.ref 40] (ab_G (ab_ui mi15 78 ((((6 : Int32) * y1) + y5)).toNatClampNeg (vp_nar .boolean 1)) ml16) (some (.int r20)) (ab_G mi18 ml19) ∧ (∃ (r23 : Int32) (mi21 : Nat → Nat → Int32) (ml22 : Nat → Nat → Int64), call 161 [.int (r20 &&& y2)] (ab_G mi18 ml19) (some (.int r23)) (ab_G mi21 ml22) ∧ (((y3 < r23) → (vp_in (((6 : Int32) * y1) + y5) 42 ∧ ((((mi21 78 ((((6 : Int32) * y1) + y5)).toNatClampNeg) = 0) → (vp_in (((6 : Int32) * y1) + y5) 42 ∧ (ab_W call ro 0 0 (ab_lk2 pl_X12_gain) Q (43, [some (.ref 40), some (.int y1), some (.int y2), some (.int y3), some (.int y5), some (.int (y5 + 1))], [], 0, 0, (ab_G (ab_ui mi21 78 ((((6 : Int32) * y1) + y5)).toNatClampNeg (vp_nar .boolean 1)) ml22))))) ∧ (¬ ((mi21 78 ((((6 : Int32) * y1) + y5)).toNatClampNeg) = 0) → (vp_in (((6 : Int32) * y1) + y5) 42 ∧ (ab_W call ro 0 0 (ab_lk2 pl_X12_gain) Q (43, [some (.ref 40), some (.int y1), some (.int y2), some (.int y3), some (.int y5), some (.int (y5 + 1))], [], 0, 0, (ab_G (ab_ui mi21 78 ((((6 : Int32) * y1) + y5)).toNatClampNeg (vp_nar .boolean 0)) ml22)))))))) ∧ (¬ (y3 < r23) → (vp_in (((6 : Int32) * y1) + y5) 42 ∧ ((((mi21 78 ((((6 : Int32) * y1) + y5)).toNatClampNeg) = 0) → (vp_in (((6 : Int32) * y1) + y5) 42 ∧ (ab_W call ro 0 0 (ab_lk2 pl_X12_gain) Q (43, [some (.ref 40), some (.int y1), some (.int y2), some (.int y3), some (.int (-1)), some (.int (y5 + 1))], [], 0, 0, (ab_G (ab_ui mi21 78 ((((6 : Int32) * y1) + y5)).toNatClampNeg (vp_nar .boolean 1)) ml22))))) ∧ (¬ ((mi21 78 ((((6 : Int32) * y1) + y5)).toNatClampNeg) = 0) → (vp_in (((6 : Int32) * y1) + y5) 42 ∧ (ab_W call ro 0 0 (ab_lk2 pl_X12_gain) Q (43, [some (.ref 40), some (.int y1), some (.int y2), some (.int y3), some (.int (-1)), some (.int (y5 + 1))], [], 0, 0, (ab_G (ab_ui mi21 78 ((((6 : Int32) * y1) + y5)).toNatClampNeg (vp_nar .boolean 0)) ml22))))))))))))) ∧ (¬ ((mi15 78 ((((6 : Int32) * y1) + y5)).toNatClampNeg) = 0) → (vp_in (((6 : Int32) * y1) + y5) 42 ∧ (∃ (r26 : Int32) (mi24 : Nat → Nat → Int32) (ml25 : Nat → Nat → Int64), call 230 [.ref 40] (ab_G (ab_ui mi15 78 ((((6 : Int32) * y1) + y5)).toNatClampNeg (vp_nar .boolean 0)) ml16) (some (.int r26)) (ab_G mi24 ml25) ∧ (∃ (r29 : Int32) (mi27 : Nat → Nat → Int32) (ml28 : Nat → Nat → Int64), call 161 [.int (r26 &&& y2)] (ab_G mi24 ml25) (some (.int r29)) (ab_G mi27 ml28) ∧ (((y3 < r29) → (vp_in (((6 : Int32) * y1) + y5) 42 ∧ ((((mi27 78 ((((6 : Int32) * y1) + y5)).toNatClampNeg) = 0) → (vp_in (((6 : Int32) * y1) + y5) 42 ∧ (ab_W call ro 0 0 (ab_lk2 pl_X12_gain) Q (43, [some (.ref 40), some (.int y1), some (.int y2), some (.int y3), some (.int y5), some (.int (y5 + 1))], [], 0, 0, (ab_G (ab_ui mi27 78 ((((6 : Int32) * y1) + y5)).toNatClampNeg (vp_nar .boolean 1)) ml28))))) ∧ (¬ ((mi27 78 ((((6 : Int32) * y1) + y5)).toNatClampNeg) = 0) → (vp_in (((6 : Int32) * y1) + y5) 42 ∧ (ab_W call ro 0 0 (ab_lk2 pl_X12_gain) Q (43, [some (.ref 40), some (.int y1), some (.int y2), some (.int y3), some (.int y5), some (.int (y5 + 1))], [], 0, 0, (ab_G (ab_ui mi27 78 ((((6 : Int32) * y1) + y5)).toNatClampNeg (vp_nar .boolean 0)) ml28)))))))) ∧ (¬ (y3 < r29) → (vp_in (((6 : Int32) * y1) + y5) 42 ∧ ((((mi27 78 ((((6 : Int32) * y1) + y5)).toNatClampNeg) = 0) → (vp_in (((6 : Int32) * y1) + y5) 42 ∧ (ab_W call ro 0 0 (ab_lk2 pl_X12_gain) Q (43, [some (.ref 40), some (.int y1), some (.int y2), some (.int y3), some (.int (-1)), some (.int (y5 + 1))], [], 0, 0, (ab_G (ab_ui mi27 78 ((((6 : Int32) * y1) + y5)).toNatClampNeg (vp_nar .boolean 1)) ml28))))) ∧ (¬ ((mi27 78 ((((6 : Int32) * y1) + y5)).toNatClampNeg) = 0) → (vp_in (((6 : Int32) * y1) + y5) 42 ∧ (ab_W call ro 0 0 (ab_lk2 pl_X12_gain) Q (43, [some (.ref 40), some (.int y1), some (.int y2), some (.int y3), some (.int (-1)), some (.int (y5 + 1))], [], 0, 0, (ab_G (ab_ui mi27 78 ((((6 : Int32) * y1) + y5)).toNatClampNeg (vp_nar .boolean 0)) ml28)))))))))))))))) ∧ (¬ (y4 < 0) → (Q (some (.int y4)) (ab_G mi15 ml16))))) ∧ (¬ (y5 < r17) → (Q (some (.int y4)) (ab_G mi15 ml16))))) :
    ab_W call ro 0 0 (ab_lk2 pl_X12_gain) Q (43, [some (.ref 40), some (.int y1), some (.int y2), some (.int y3), some (.int y4), some (.int y5)], [], 0, 0, ab_G mi ml) := by
  obtain ⟨r17, mi15, ml16, hc, h⟩ := h
  refine ab_wc 3 (c := 225) (as := [.ref 40]) (pc := 49) (ll := [some (.ref 40), some (.int y1), some (.int y2), some (.int y3), some (.int y4), some (.int y5)]) (st := [.int y5]) (c1 := 0) (s1 := 0) (g := (ab_G mi ml)) rfl ⟨trivial, trivial, trivial⟩ hc ?_
  refine ab_wk 1 (f' := (if y5 < r17 then 52 else 148, [some (.ref 40), some (.int y1), some (.int y2), some (.int y3), some (.int y4), some (.int y5)], [], 0, 0, (ab_G mi15 ml16))) rfl ⟨trivial, trivial⟩ ?_
  refine ab_wi (fun c => ?_) (fun c => ?_)
  · have h := h.1 c
    refine ab_wk 2 (f' := (if y4 < 0 then 57 else 148, [some (.ref 40), some (.int y1), some (.int y2), some (.int y3), some (.int y4), some (.int y5)], [], 0, 0, (ab_G mi15 ml16))) rfl ⟨trivial, trivial, trivial⟩ ?_
    refine ab_wi (fun c => ?_) (fun c => ?_)
    · have h := h.1 c
      obtain ⟨p0, h⟩ := h
      refine ab_wk 16 (f' := (if (mi15 78 ((((6 : Int32) * y1) + y5)).toNatClampNeg) = 0 then 83 else 87, [some (.ref 40), some (.int y1), some (.int y2), some (.int y3), some (.int y4), some (.int y5)], [.int (((6 : Int32) * y1) + y5), .ref 78], 0, 0, (ab_G mi15 ml16))) rfl ⟨trivial, trivial, trivial, trivial, trivial, trivial, trivial, trivial, trivial, trivial, trivial, trivial, trivial, trivial, p0, trivial, trivial⟩ ?_
      refine ab_wi (fun c => ?_) (fun c => ?_)
      · have h := h.1 c
        obtain ⟨p0, h⟩ := h
        obtain ⟨r20, mi18, ml19, hc, h⟩ := h
        refine ab_wc 5 (c := 230) (as := [.ref 40]) (pc := 93) (ll := [some (.ref 40), some (.int y1), some (.int y2), some (.int y3), some (.int y4), some (.int y5)]) (st := []) (c1 := 0) (s1 := 0) (g := (ab_G (ab_ui mi15 78 ((((6 : Int32) * y1) + y5)).toNatClampNeg (vp_nar .boolean 1)) ml16)) rfl ⟨trivial, trivial, p0, trivial, trivial⟩ hc ?_
        obtain ⟨r23, mi21, ml22, hc, h⟩ := h
        refine ab_wc 3 (c := 161) (as := [.int (r20 &&& y2)]) (pc := 98) (ll := [some (.ref 40), some (.int y1), some (.int y2), some (.int y3), some (.int y4), some (.int y5)]) (st := []) (c1 := 0) (s1 := 0) (g := (ab_G mi18 ml19)) rfl ⟨trivial, trivial, trivial⟩ hc ?_
        refine ab_wk 2 (f' := (if y3 < r23 then 102 else 107, [some (.ref 40), some (.int y1), some (.int y2), some (.int y3), some (.int y4), some (.int y5)], [], 0, 0, (ab_G mi21 ml22))) rfl ⟨trivial, trivial, trivial⟩ ?_
        refine ab_wi (fun c => ?_) (fun c => ?_)
        · have h := h.1 c
          obtain ⟨p0, h⟩ := h
          refine ab_wk 19 (f' := (if (mi21 78 ((((6 : Int32) * y1) + y5)).toNatClampNeg) = 0 then 136 else 140, [some (.ref 40), some (.int y1), some (.int y2), some (.int y3), some (.int y5), some (.int y5)], [.int (((6 : Int32) * y1) + y5), .ref 78], 0, 0, (ab_G mi21 ml22))) rfl ⟨trivial, trivial, trivial, trivial, trivial, trivial, trivial, trivial, trivial, trivial, trivial, trivial, trivial, trivial, trivial, trivial, trivial, p0, trivial, trivial⟩ ?_
          refine ab_wi (fun c => ?_) (fun c => ?_)
          · have h := h.1 c
            obtain ⟨p0, h⟩ := h
            exact ab_wk 5 (f' := (43, [some (.ref 40), some (.int y1), some (.int y2), some (.int y3), some (.int y5), some (.int (y5 + 1))], [], 0, 0, (ab_G (ab_ui mi21 78 ((((6 : Int32) * y1) + y5)).toNatClampNeg (vp_nar .boolean 1)) ml22))) rfl ⟨trivial, trivial, p0, trivial, trivial, trivial⟩ h
          · have h := h.2 c
            obtain ⟨p0, h⟩ := h
            exact ab_wk 4 (f' := (43, [some (.ref 40), some (.int y1), some (.int y2), some (.int y3), some (.int y5), some (.int (y5 + 1))], [], 0, 0, (ab_G (ab_ui mi21 78 ((((6 : Int32) * y1) + y5)).toNatClampNeg (vp_nar .boolean 0)) ml22))) rfl ⟨trivial, p0, trivial, trivial, trivial⟩ h
        · have h := h.2 c
          obtain ⟨p0, h⟩ := h
          refine ab_wk 18 (f' := (if (mi21 78 ((((6 : Int32) * y1) + y5)).toNatClampNeg) = 0 then 136 else 140, [some (.ref 40), some (.int y1), some (.int y2), some (.int y3), some (.int (-1)), some (.int y5)], [.int (((6 : Int32) * y1) + y5), .ref 78], 0, 0, (ab_G mi21 ml22))) rfl ⟨trivial, trivial, trivial, trivial, trivial, trivial, trivial, trivial, trivial, trivial, trivial, trivial, trivial, trivial, trivial, trivial, p0, trivial, trivial⟩ ?_
          refine ab_wi (fun c => ?_) (fun c => ?_)
          · have h := h.1 c
            obtain ⟨p0, h⟩ := h
            exact ab_wk 5 (f' := (43, [some (.ref 40), some (.int y1), some (.int y2), some (.int y3), some (.int (-1)), some (.int (y5 + 1))], [], 0, 0, (ab_G (ab_ui mi21 78 ((((6 : Int32) * y1) + y5)).toNatClampNeg (vp_nar .boolean 1)) ml22))) rfl ⟨trivial, trivial, p0, trivial, trivial, trivial⟩ h
          · have h := h.2 c
            obtain ⟨p0, h⟩ := h
            exact ab_wk 4 (f' := (43, [some (.ref 40), some (.int y1), some (.int y2), some (.int y3), some (.int (-1)), some (.int (y5 + 1))], [], 0, 0, (ab_G (ab_ui mi21 78 ((((6 : Int32) * y1) + y5)).toNatClampNeg (vp_nar .boolean 0)) ml22))) rfl ⟨trivial, p0, trivial, trivial, trivial⟩ h
      · have h := h.2 c
        obtain ⟨p0, h⟩ := h
        obtain ⟨r26, mi24, ml25, hc, h⟩ := h
        refine ab_wc 4 (c := 230) (as := [.ref 40]) (pc := 93) (ll := [some (.ref 40), some (.int y1), some (.int y2), some (.int y3), some (.int y4), some (.int y5)]) (st := []) (c1 := 0) (s1 := 0) (g := (ab_G (ab_ui mi15 78 ((((6 : Int32) * y1) + y5)).toNatClampNeg (vp_nar .boolean 0)) ml16)) rfl ⟨trivial, p0, trivial, trivial⟩ hc ?_
        obtain ⟨r29, mi27, ml28, hc, h⟩ := h
        refine ab_wc 3 (c := 161) (as := [.int (r26 &&& y2)]) (pc := 98) (ll := [some (.ref 40), some (.int y1), some (.int y2), some (.int y3), some (.int y4), some (.int y5)]) (st := []) (c1 := 0) (s1 := 0) (g := (ab_G mi24 ml25)) rfl ⟨trivial, trivial, trivial⟩ hc ?_
        refine ab_wk 2 (f' := (if y3 < r29 then 102 else 107, [some (.ref 40), some (.int y1), some (.int y2), some (.int y3), some (.int y4), some (.int y5)], [], 0, 0, (ab_G mi27 ml28))) rfl ⟨trivial, trivial, trivial⟩ ?_
        refine ab_wi (fun c => ?_) (fun c => ?_)
        · have h := h.1 c
          obtain ⟨p0, h⟩ := h
          refine ab_wk 19 (f' := (if (mi27 78 ((((6 : Int32) * y1) + y5)).toNatClampNeg) = 0 then 136 else 140, [some (.ref 40), some (.int y1), some (.int y2), some (.int y3), some (.int y5), some (.int y5)], [.int (((6 : Int32) * y1) + y5), .ref 78], 0, 0, (ab_G mi27 ml28))) rfl ⟨trivial, trivial, trivial, trivial, trivial, trivial, trivial, trivial, trivial, trivial, trivial, trivial, trivial, trivial, trivial, trivial, trivial, p0, trivial, trivial⟩ ?_
          refine ab_wi (fun c => ?_) (fun c => ?_)
          · have h := h.1 c
            obtain ⟨p0, h⟩ := h
            exact ab_wk 5 (f' := (43, [some (.ref 40), some (.int y1), some (.int y2), some (.int y3), some (.int y5), some (.int (y5 + 1))], [], 0, 0, (ab_G (ab_ui mi27 78 ((((6 : Int32) * y1) + y5)).toNatClampNeg (vp_nar .boolean 1)) ml28))) rfl ⟨trivial, trivial, p0, trivial, trivial, trivial⟩ h
          · have h := h.2 c
            obtain ⟨p0, h⟩ := h
            exact ab_wk 4 (f' := (43, [some (.ref 40), some (.int y1), some (.int y2), some (.int y3), some (.int y5), some (.int (y5 + 1))], [], 0, 0, (ab_G (ab_ui mi27 78 ((((6 : Int32) * y1) + y5)).toNatClampNeg (vp_nar .boolean 0)) ml28))) rfl ⟨trivial, p0, trivial, trivial, trivial⟩ h
        · have h := h.2 c
          obtain ⟨p0, h⟩ := h
          refine ab_wk 18 (f' := (if (mi27 78 ((((6 : Int32) * y1) + y5)).toNatClampNeg) = 0 then 136 else 140, [some (.ref 40), some (.int y1), some (.int y2), some (.int y3), some (.int (-1)), some (.int y5)], [.int (((6 : Int32) * y1) + y5), .ref 78], 0, 0, (ab_G mi27 ml28))) rfl ⟨trivial, trivial, trivial, trivial, trivial, trivial, trivial, trivial, trivial, trivial, trivial, trivial, trivial, trivial, trivial, trivial, p0, trivial, trivial⟩ ?_
          refine ab_wi (fun c => ?_) (fun c => ?_)
          · have h := h.1 c
            obtain ⟨p0, h⟩ := h
            exact ab_wk 5 (f' := (43, [some (.ref 40), some (.int y1), some (.int y2), some (.int y3), some (.int (-1)), some (.int (y5 + 1))], [], 0, 0, (ab_G (ab_ui mi27 78 ((((6 : Int32) * y1) + y5)).toNatClampNeg (vp_nar .boolean 1)) ml28))) rfl ⟨trivial, trivial, p0, trivial, trivial, trivial⟩ h
          · have h := h.2 c
            obtain ⟨p0, h⟩ := h
            exact ab_wk 4 (f' := (43, [some (.ref 40), some (.int y1), some (.int y2), some (.int y3), some (.int (-1)), some (.int (y5 + 1))], [], 0, 0, (ab_G (ab_ui mi27 78 ((((6 : Int32) * y1) + y5)).toNatClampNeg (vp_nar .boolean 0)) ml28))) rfl ⟨trivial, p0, trivial, trivial, trivial⟩ h
    · have h := h.2 c
      exact ab_wr 2 rfl ⟨trivial, trivial⟩ h
  · have h := h.2 c
    exact ab_wr 2 rfl ⟨trivial, trivial⟩ h
theorem vc_X12_favours_0 {call : Nat → List Value → ab_S → Option Value → ab_S → Prop} {ro : ab_E} {Q : Option Value → ab_S → Prop} (x1 : Int32) (x2 : Int32) (x3 : Int32) (x4 : Int32) (mi : Nat → Nat → Int32) (ml : Nat → Nat → Int64)
    (h : ab_W call ro 0 0 (ab_lk2 pl_X12_favours) Q (6, [some (.ref 40), some (.int x1), some (.int x2), some (.int x3), some (.int x4), some (.int 1), some (.int 0)], [], 0, 0, (ab_G mi ml))) :
    ab_W call ro 0 0 (ab_lk2 pl_X12_favours) Q (0, [some (.ref 40), some (.int x1), some (.int x2), some (.int x3), some (.int x4), none, none], [], 0, 0, ab_G mi ml) := by
  exact ab_wk 4 (f' := (6, [some (.ref 40), some (.int x1), some (.int x2), some (.int x3), some (.int x4), some (.int 1), some (.int 0)], [], 0, 0, (ab_G mi ml))) rfl ⟨trivial, trivial, trivial, trivial, trivial⟩ h
theorem vc_X12_favours_6 {call : Nat → List Value → ab_S → Option Value → ab_S → Prop} {ro : ab_E} {Q : Option Value → ab_S → Prop} (y1 : Int32) (y2 : Int32) (y3 : Int32) (y4 : Int32) (y5 : Int32) (y6 : Int32) (mi : Nat → Nat → Int32) (ml : Nat → Nat → Int64)
    (h : ∃ (r3 : Int32) (mi1 : Nat → Nat → Int32) (ml2 : Nat → Nat → Int64), call 225 [.ref 40] (ab_G mi ml) (some (.int r3)) (ab_G mi1 ml2) ∧ (((y6 < r3) → (((((y2 >>> (y6 &&& 31)) &&& 1) = 0) → (∃ (r6 : Int32) (mi4 : Nat → Nat → Int32) (ml5 : Nat → Nat → Int64), call 228 [.ref 40, .int y3, .int y6] (ab_G mi1 ml2) (some (.int r6)) (ab_G mi4 ml5) ∧ (∃ (mi7 : Nat → Nat → Int32) (ml8 : Nat → Nat → Int64), call 233 [.ref 40, .int y1, .int (y2 ||| ((1 : Int32) <<< (y6 &&& 31))), .int r6, .int (((8 : Int32) * y4) + y6)] (ab_G mi4 ml5) none (ab_G mi7 ml8) ∧ (ab_W call ro 0 0 (ab_lk2 pl_X12_favours) Q (6, [some (.ref 40), some (.int y1), some (.int y2), some (.int y3), some (.int y4), some (.int 0), some (.int (y6 + 1))], [], 0, 0, (ab_G mi7 ml8)))))) ∧ (¬ (((y2 >>> (y6 &&& 31)) &&& 1) = 0) → (ab_W call ro 0 0 (ab_lk2 pl_X12_favours) Q (6, [some (.ref 40), some (.int y1), some (.int y2), some (.int y3), some (.int y4), some (.int y5), some (.int (y6 + 1))], [], 0, 0, (ab_G mi1 ml2)))))) ∧ (¬ (y6 < r3) → (((y5 = 0) → (Q none (ab_G mi1 ml2))) ∧ (¬ (y5 = 0) → (∃ (r11 : Int32) (mi9 : Nat → Nat → Int32) (ml10 : Nat → Nat → Int64), call 161 [.int (y3 &&& y1)] (ab_G mi1 ml2) (some (.int r11)) (ab_G mi9 ml10) ∧ ((((mi9 40 67) < 0) → ((((mi9 40 66) < r11) → (Q none (ab_G (ab_ui (ab_ui (ab_ui mi9 40 67 r11) 40 66 r11) 40 68 y4) ml10))) ∧ (¬ ((mi9 40 66) < r11) → (Q none (ab_G (ab_ui mi9 40 67 r11) ml10))))) ∧ (¬ ((mi9 40 67) < 0) → (((r11 < (mi9 40 67)) → ((((mi9 40 66) < r11) → (Q none (ab_G (ab_ui (ab_ui (ab_ui mi9 40 67 r11) 40 66 r11) 40 68 y4) ml10))) ∧ (¬ ((mi9 40 66) < r11) → (Q none (ab_G (ab_ui mi9 40 67 r11) ml10))))) ∧ (¬ (r11 < (mi9 40 67)) → ((((mi9 40 66) < r11) → (Q none (ab_G (ab_ui (ab_ui (ab_ui mi9 40 67 (mi9 40 67)) 40 66 r11) 40 68 y4) ml10))) ∧ (¬ ((mi9 40 66) < r11) → (Q none (ab_G (ab_ui mi9 40 67 (mi9 40 67)) ml10)))))))))))))) :
    ab_W call ro 0 0 (ab_lk2 pl_X12_favours) Q (6, [some (.ref 40), some (.int y1), some (.int y2), some (.int y3), some (.int y4), some (.int y5), some (.int y6)], [], 0, 0, ab_G mi ml) := by
  obtain ⟨r3, mi1, ml2, hc, h⟩ := h
  refine ab_wc 3 (c := 225) (as := [.ref 40]) (pc := 12) (ll := [some (.ref 40), some (.int y1), some (.int y2), some (.int y3), some (.int y4), some (.int y5), some (.int y6)]) (st := [.int y6]) (c1 := 0) (s1 := 0) (g := (ab_G mi ml)) rfl ⟨trivial, trivial, trivial⟩ hc ?_
  refine ab_wk 1 (f' := (if y6 < r3 then 15 else 59, [some (.ref 40), some (.int y1), some (.int y2), some (.int y3), some (.int y4), some (.int y5), some (.int y6)], [], 0, 0, (ab_G mi1 ml2))) rfl ⟨trivial, trivial⟩ ?_
  refine ab_wi (fun c => ?_) (fun c => ?_)
  · have h := h.1 c
    refine ab_wk 6 (f' := (if ((y2 >>> (y6 &&& 31)) &&& 1) = 0 then 24 else 53, [some (.ref 40), some (.int y1), some (.int y2), some (.int y3), some (.int y4), some (.int y5), some (.int y6)], [], 0, 0, (ab_G mi1 ml2))) rfl ⟨trivial, trivial, trivial, trivial, trivial, trivial, trivial⟩ ?_
    refine ab_wi (fun c => ?_) (fun c => ?_)
    · have h := h.1 c
      obtain ⟨r6, mi4, ml5, hc, h⟩ := h
      refine ab_wc 13 (c := 228) (as := [.ref 40, .int y3, .int y6]) (pc := 42) (ll := [some (.ref 40), some (.int y1), some (.int y2), some (.int y3), some (.int y4), some (.int 0), some (.int y6)]) (st := [.int (y2 ||| ((1 : Int32) <<< (y6 &&& 31))), .int y1, .ref 40]) (c1 := 0) (s1 := 0) (g := (ab_G mi1 ml2)) rfl ⟨trivial, trivial, trivial, trivial, trivial, trivial, trivial, trivial, trivial, trivial, trivial, trivial, trivial⟩ hc ?_
      obtain ⟨mi7, ml8, hc, h⟩ := h
      refine ab_wc 6 (c := 233) (as := [.ref 40, .int y1, .int (y2 ||| ((1 : Int32) <<< (y6 &&& 31))), .int r6, .int (((8 : Int32) * y4) + y6)]) (pc := 53) (ll := [some (.ref 40), some (.int y1), some (.int y2), some (.int y3), some (.int y4), some (.int 0), some (.int y6)]) (st := []) (c1 := 0) (s1 := 0) (g := (ab_G mi4 ml5)) rfl ⟨trivial, trivial, trivial, trivial, trivial, trivial⟩ hc ?_
      exact ab_wk 2 (f' := (6, [some (.ref 40), some (.int y1), some (.int y2), some (.int y3), some (.int y4), some (.int 0), some (.int (y6 + 1))], [], 0, 0, (ab_G mi7 ml8))) rfl ⟨trivial, trivial, trivial⟩ h
    · have h := h.2 c
      exact ab_wk 2 (f' := (6, [some (.ref 40), some (.int y1), some (.int y2), some (.int y3), some (.int y4), some (.int y5), some (.int (y6 + 1))], [], 0, 0, (ab_G mi1 ml2))) rfl ⟨trivial, trivial, trivial⟩ h
  · have h := h.2 c
    refine ab_wk 2 (f' := (if y5 = 0 then 122 else 64, [some (.ref 40), some (.int y1), some (.int y2), some (.int y3), some (.int y4), some (.int y5), some (.int y6)], [], 0, 0, (ab_G mi1 ml2))) rfl ⟨trivial, trivial, trivial⟩ ?_
    refine ab_wi (fun c => ?_) (fun c => ?_)
    · have h := h.1 c
      exact ab_wr 1 rfl trivial h
    · have h := h.2 c
      obtain ⟨r11, mi9, ml10, hc, h⟩ := h
      refine ab_wc 4 (c := 161) (as := [.int (y3 &&& y1)]) (pc := 70) (ll := [some (.ref 40), some (.int y1), some (.int y2), some (.int y3), some (.int y4), some (.int y5), some (.int y6)]) (st := []) (c1 := 0) (s1 := 0) (g := (ab_G mi1 ml2)) rfl ⟨trivial, trivial, trivial, trivial⟩ hc ?_
      refine ab_wk 5 (f' := (if (mi9 40 67) < 0 then 89 else 80, [some (.ref 40), some (.int y1), some (.int y2), some (.int y3), some (.int y4), some (.int y5), some (.int r11)], [.ref 40], 0, 0, (ab_G mi9 ml10))) rfl ⟨trivial, trivial, trivial, trivial, trivial, trivial⟩ ?_
      refine ab_wi (fun c => ?_) (fun c => ?_)
      · have h := h.1 c
        refine ab_wk 7 (f' := (if (mi9 40 66) < r11 then 110 else 122, [some (.ref 40), some (.int y1), some (.int y2), some (.int y3), some (.int y4), some (.int y5), some (.int r11)], [], 0, 0, (ab_G (ab_ui mi9 40 67 r11) ml10))) rfl ⟨trivial, trivial, trivial, trivial, trivial, trivial, trivial, trivial⟩ ?_
        refine ab_wi (fun c => ?_) (fun c => ?_)
        · have h := h.1 c
          exact ab_wr 7 rfl ⟨trivial, trivial, trivial, trivial, trivial, trivial, trivial⟩ h
        · have h := h.2 c
          exact ab_wr 1 rfl trivial h
      · have h := h.2 c
        refine ab_wk 4 (f' := (if r11 < (mi9 40 67) then 89 else 94, [some (.ref 40), some (.int y1), some (.int y2), some (.int y3), some (.int y4), some (.int y5), some (.int r11)], [.ref 40], 0, 0, (ab_G mi9 ml10))) rfl ⟨trivial, trivial, trivial, trivial, trivial⟩ ?_
        refine ab_wi (fun c => ?_) (fun c => ?_)
        · have h := h.1 c
          refine ab_wk 7 (f' := (if (mi9 40 66) < r11 then 110 else 122, [some (.ref 40), some (.int y1), some (.int y2), some (.int y3), some (.int y4), some (.int y5), some (.int r11)], [], 0, 0, (ab_G (ab_ui mi9 40 67 r11) ml10))) rfl ⟨trivial, trivial, trivial, trivial, trivial, trivial, trivial, trivial⟩ ?_
          refine ab_wi (fun c => ?_) (fun c => ?_)
          · have h := h.1 c
            exact ab_wr 7 rfl ⟨trivial, trivial, trivial, trivial, trivial, trivial, trivial⟩ h
          · have h := h.2 c
            exact ab_wr 1 rfl trivial h
        · have h := h.2 c
          refine ab_wk 7 (f' := (if (mi9 40 66) < r11 then 110 else 122, [some (.ref 40), some (.int y1), some (.int y2), some (.int y3), some (.int y4), some (.int y5), some (.int r11)], [], 0, 0, (ab_G (ab_ui mi9 40 67 (mi9 40 67)) ml10))) rfl ⟨trivial, trivial, trivial, trivial, trivial, trivial, trivial, trivial⟩ ?_
          refine ab_wi (fun c => ?_) (fun c => ?_)
          · have h := h.1 c
            exact ab_wr 7 rfl ⟨trivial, trivial, trivial, trivial, trivial, trivial, trivial⟩ h
          · have h := h.2 c
            exact ab_wr 1 rfl trivial h
theorem vc_X12_wantedBy_0 {call : Nat → List Value → ab_S → Option Value → ab_S → Prop} {ro : ab_E} {Q : Option Value → ab_S → Prop} (x1 : Int32) (mi : Nat → Nat → Int32) (ml : Nat → Nat → Int64)
    (h : ab_W call ro 0 0 (ab_lk2 pl_X12_wantedBy) Q (4, [some (.ref 40), some (.int x1), some (.int 0), some (.int 0)], [], 0, 0, (ab_G mi ml))) :
    ab_W call ro 0 0 (ab_lk2 pl_X12_wantedBy) Q (0, [some (.ref 40), some (.int x1), none, none], [], 0, 0, ab_G mi ml) := by
  exact ab_wk 4 (f' := (4, [some (.ref 40), some (.int x1), some (.int 0), some (.int 0)], [], 0, 0, (ab_G mi ml))) rfl ⟨trivial, trivial, trivial, trivial, trivial⟩ h
theorem vc_X12_wantedBy_4 {call : Nat → List Value → ab_S → Option Value → ab_S → Prop} {ro : ab_E} {Q : Option Value → ab_S → Prop} (y1 : Int32) (y2 : Int32) (y3 : Int32) (mi : Nat → Nat → Int32) (ml : Nat → Nat → Int64)
    (h : ∃ (r3 : Int32) (mi1 : Nat → Nat → Int32) (ml2 : Nat → Nat → Int64), call 225 [.ref 40] (ab_G mi ml) (some (.int r3)) (ab_G mi1 ml2) ∧ (((y3 < r3) → (vp_in (((6 : Int32) * y1) + y3) 42 ∧ ((((mi1 78 ((((6 : Int32) * y1) + y3)).toNatClampNeg) = 0) → (ab_W call ro 0 0 (ab_lk2 pl_X12_wantedBy) Q (4, [some (.ref 40), some (.int y1), some (.int (y2 ||| 0)), some (.int (y3 + 1))], [], 0, 0, (ab_G mi1 ml2)))) ∧ (¬ ((mi1 78 ((((6 : Int32) * y1) + y3)).toNatClampNeg) = 0) → (ab_W call ro 0 0 (ab_lk2 pl_X12_wantedBy) Q (4, [some (.ref 40), some (.int y1), some (.int (y2 ||| ((1 : Int32) <<< (y3 &&& 31)))), some (.int (y3 + 1))], [], 0, 0, (ab_G mi1 ml2))))))) ∧ (¬ (y3 < r3) → (Q (some (.int y2)) (ab_G mi1 ml2))))) :
    ab_W call ro 0 0 (ab_lk2 pl_X12_wantedBy) Q (4, [some (.ref 40), some (.int y1), some (.int y2), some (.int y3)], [], 0, 0, ab_G mi ml) := by
  obtain ⟨r3, mi1, ml2, hc, h⟩ := h
  refine ab_wc 3 (c := 225) (as := [.ref 40]) (pc := 9) (ll := [some (.ref 40), some (.int y1), some (.int y2), some (.int y3)]) (st := [.int y3]) (c1 := 0) (s1 := 0) (g := (ab_G mi ml)) rfl ⟨trivial, trivial, trivial⟩ hc ?_
  refine ab_wk 1 (f' := (if y3 < r3 then 12 else 42, [some (.ref 40), some (.int y1), some (.int y2), some (.int y3)], [], 0, 0, (ab_G mi1 ml2))) rfl ⟨trivial, trivial⟩ ?_
  refine ab_wi (fun c => ?_) (fun c => ?_)
  · have h := h.1 c
    obtain ⟨p0, h⟩ := h
    refine ab_wk 10 (f' := (if (mi1 78 ((((6 : Int32) * y1) + y3)).toNatClampNeg) = 0 then 33 else 27, [some (.ref 40), some (.int y1), some (.int y2), some (.int y3)], [.int y2], 0, 0, (ab_G mi1 ml2))) rfl ⟨trivial, trivial, trivial, trivial, trivial, trivial, trivial, trivial, p0, trivial, trivial⟩ ?_
    refine ab_wi (fun c => ?_) (fun c => ?_)
    · have h := h.1 c
      exact ab_wk 5 (f' := (4, [some (.ref 40), some (.int y1), some (.int (y2 ||| 0)), some (.int (y3 + 1))], [], 0, 0, (ab_G mi1 ml2))) rfl ⟨trivial, trivial, trivial, trivial, trivial, trivial⟩ h
    · have h := h.2 c
      exact ab_wk 8 (f' := (4, [some (.ref 40), some (.int y1), some (.int (y2 ||| ((1 : Int32) <<< (y3 &&& 31)))), some (.int (y3 + 1))], [], 0, 0, (ab_G mi1 ml2))) rfl ⟨trivial, trivial, trivial, trivial, trivial, trivial, trivial, trivial, trivial⟩ h
  · have h := h.2 c
    exact ab_wr 2 rfl ⟨trivial, trivial⟩ h
theorem vc_X12_favour_0 {call : Nat → List Value → ab_S → Option Value → ab_S → Prop} {ro : ab_E} {Q : Option Value → ab_S → Prop} (x1 : Int32) (x2 : Int32) (mi : Nat → Nat → Int32) (ml : Nat → Nat → Int64)
    (h : ∃ (r3 : Int32) (mi1 : Nat → Nat → Int32) (ml2 : Nat → Nat → Int64), call 178 [.int x1, .int 0, .int 6] (ab_G (ab_ui mi 40 0 0) ml) (some (.int r3)) (ab_G mi1 ml2) ∧ (((r3 = 0) → (Q (some (.int (-1))) (ab_G mi1 ml2))) ∧ (¬ (r3 = 0) → (∃ (r6 : Int32) (mi4 : Nat → Nat → Int32) (ml5 : Nat → Nat → Int64), call 178 [.int x2, .int 0, .int 2] (ab_G mi1 ml2) (some (.int r6)) (ab_G mi4 ml5) ∧ (((r6 = 0) → (Q (some (.int (-1))) (ab_G mi4 ml5))) ∧ (¬ (r6 = 0) → (∃ (mi7 : Nat → Nat → Int32) (ml8 : Nat → Nat → Int64), call 226 [.ref 40] (ab_G mi4 ml5) none (ab_G mi7 ml8) ∧ (∃ (r11 : Int32) (mi9 : Nat → Nat → Int32) (ml10 : Nat → Nat → Int64), call 234 [.ref 40, .int x1] (ab_G (ab_ui (ab_ui (ab_ui mi7 40 66 (-1)) 40 67 (-1)) 40 68 0) ml8) (some (.int r11)) (ab_G mi9 ml10) ∧ (∃ (mi12 : Nat → Nat → Int32) (ml13 : Nat → Nat → Int64), call 233 [.ref 40, .int r11, .int 0, .int 0, .int 0] (ab_G mi9 ml10) none (ab_G mi12 ml13) ∧ (((x2 = 0) → (Q (some (.int (mi12 40 66))) (ab_G mi12 ml13))) ∧ (¬ (x2 = 0) → (((x2 = 1) → (Q (some (.int (mi12 40 67))) (ab_G mi12 ml13))) ∧ (¬ (x2 = 1) → (Q (some (.int (mi12 40 68))) (ab_G mi12 ml13))))))))))))))) :
    ab_W call ro 0 0 (ab_lk2 pl_X12_favour) Q (0, [some (.ref 40), some (.int x1), some (.int x2)], [], 0, 0, ab_G mi ml) := by
  obtain ⟨r3, mi1, ml2, hc, h⟩ := h
  refine ab_wc 7 (c := 178) (as := [.int x1, .int 0, .int 6]) (pc := 12) (ll := [some (.ref 40), some (.int x1), some (.int x2)]) (st := []) (c1 := 0) (s1 := 0) (g := (ab_G (ab_ui mi 40 0 0) ml)) rfl ⟨trivial, trivial, trivial, trivial, trivial, trivial, trivial⟩ hc ?_
  refine ab_wk 1 (f' := (if r3 = 0 then 24 else 15, [some (.ref 40), some (.int x1), some (.int x2)], [], 0, 0, (ab_G mi1 ml2))) rfl ⟨trivial, trivial⟩ ?_
  refine ab_wi (fun c => ?_) (fun c => ?_)
  · have h := h.1 c
    exact ab_wr 2 rfl ⟨trivial, trivial⟩ h
  · have h := h.2 c
    obtain ⟨r6, mi4, ml5, hc, h⟩ := h
    refine ab_wc 4 (c := 178) (as := [.int x2, .int 0, .int 2]) (pc := 21) (ll := [some (.ref 40), some (.int x1), some (.int x2)]) (st := []) (c1 := 0) (s1 := 0) (g := (ab_G mi1 ml2)) rfl ⟨trivial, trivial, trivial, trivial⟩ hc ?_
    refine ab_wk 1 (f' := (if r6 = 0 then 24 else 26, [some (.ref 40), some (.int x1), some (.int x2)], [], 0, 0, (ab_G mi4 ml5))) rfl ⟨trivial, trivial⟩ ?_
    refine ab_wi (fun c => ?_) (fun c => ?_)
    · have h := h.1 c
      exact ab_wr 2 rfl ⟨trivial, trivial⟩ h
    · have h := h.2 c
      obtain ⟨mi7, ml8, hc, h⟩ := h
      refine ab_wc 2 (c := 226) (as := [.ref 40]) (pc := 30) (ll := [some (.ref 40), some (.int x1), some (.int x2)]) (st := []) (c1 := 0) (s1 := 0) (g := (ab_G mi4 ml5)) rfl ⟨trivial, trivial⟩ hc ?_
      obtain ⟨r11, mi9, ml10, hc, h⟩ := h
      refine ab_wc 13 (c := 234) (as := [.ref 40, .int x1]) (pc := 51) (ll := [some (.ref 40), some (.int x1), some (.int x2)]) (st := [.ref 40]) (c1 := 0) (s1 := 0) (g := (ab_G (ab_ui (ab_ui (ab_ui mi7 40 66 (-1)) 40 67 (-1)) 40 68 0) ml8)) rfl ⟨trivial, trivial, trivial, trivial, trivial, trivial, trivial, trivial, trivial, trivial, trivial, trivial, trivial⟩ hc ?_
      obtain ⟨mi12, ml13, hc, h⟩ := h
      refine ab_wc 4 (c := 233) (as := [.ref 40, .int r11, .int 0, .int 0, .int 0]) (pc := 57) (ll := [some (.ref 40), some (.int x1), some (.int x2)]) (st := []) (c1 := 0) (s1 := 0) (g := (ab_G mi9 ml10)) rfl ⟨trivial, trivial, trivial, trivial⟩ hc ?_
      refine ab_wk 2 (f' := (if x2 = 0 then 61 else 68, [some (.ref 40), some (.int x1), some (.int x2)], [], 0, 0, (ab_G mi12 ml13))) rfl ⟨trivial, trivial, trivial⟩ ?_
      refine ab_wi (fun c => ?_) (fun c => ?_)
      · have h := h.1 c
        exact ab_wr 4 rfl ⟨trivial, trivial, trivial, trivial⟩ h
      · have h := h.2 c
        refine ab_wk 3 (f' := (if x2 = 1 then 73 else 80, [some (.ref 40), some (.int x1), some (.int x2)], [], 0, 0, (ab_G mi12 ml13))) rfl ⟨trivial, trivial, trivial, trivial⟩ ?_
        refine ab_wi (fun c => ?_) (fun c => ?_)
        · have h := h.1 c
          exact ab_wr 4 rfl ⟨trivial, trivial, trivial, trivial⟩ h
        · have h := h.2 c
          exact ab_wr 3 rfl ⟨trivial, trivial, trivial⟩ h
theorem vc_X12_world_0 {call : Nat → List Value → ab_S → Option Value → ab_S → Prop} {ro : ab_E} {Q : Option Value → ab_S → Prop} (x1 : Int32) (mi : Nat → Nat → Int32) (ml : Nat → Nat → Int64)
    (h : ∃ (r3 : Int32) (mi1 : Nat → Nat → Int32) (ml2 : Nat → Nat → Int64), call 178 [.int x1, .int 0, .int 127] (ab_G (ab_ui mi 40 0 0) ml) (some (.int r3)) (ab_G mi1 ml2) ∧ (((r3 = 0) → (Q (some (.int (-1))) (ab_G mi1 ml2))) ∧ (¬ (r3 = 0) → ((((mi1 40 69) = 40) → (Q (some (.int (-1))) (ab_G mi1 ml2))) ∧ (¬ ((mi1 40 69) = 40) → (vp_in (mi1 40 69) 40 ∧ (vp_in (mi1 40 69) 40 ∧ (Q (some (.int (((mi1 40 69) + 1) - 1))) (ab_G (ab_ui (ab_ui (ab_ui mi1 81 ((mi1 40 69)).toNatClampNeg x1) 82 ((mi1 40 69)).toNatClampNeg (mi1 40 34)) 40 69 ((mi1 40 69) + 1)) ml2))))))))) :
    ab_W call ro 0 0 (ab_lk2 pl_X12_world) Q (0, [some (.ref 40), some (.int x1)], [], 0, 0, ab_G mi ml) := by
  obtain ⟨r3, mi1, ml2, hc, h⟩ := h
  refine ab_wc 7 (c := 178) (as := [.int x1, .int 0, .int 127]) (pc := 12) (ll := [some (.ref 40), some (.int x1)]) (st := []) (c1 := 0) (s1 := 0) (g := (ab_G (ab_ui mi 40 0 0) ml)) rfl ⟨trivial, trivial, trivial, trivial, trivial, trivial, trivial⟩ hc ?_
  refine ab_wk 1 (f' := (if r3 = 0 then 24 else 15, [some (.ref 40), some (.int x1)], [], 0, 0, (ab_G mi1 ml2))) rfl ⟨trivial, trivial⟩ ?_
  refine ab_wi (fun c => ?_) (fun c => ?_)
  · have h := h.1 c
    exact ab_wr 2 rfl ⟨trivial, trivial⟩ h
  · have h := h.2 c
    refine ab_wk 4 (f' := (if (mi1 40 69) = 40 then 24 else 26, [some (.ref 40), some (.int x1)], [], 0, 0, (ab_G mi1 ml2))) rfl ⟨trivial, trivial, trivial, trivial, trivial⟩ ?_
    refine ab_wi (fun c => ?_) (fun c => ?_)
    · have h := h.1 c
      exact ab_wr 2 rfl ⟨trivial, trivial⟩ h
    · have h := h.2 c
      obtain ⟨p0, p1, h⟩ := h
      exact ab_wr 24 rfl ⟨trivial, trivial, trivial, trivial, trivial, p0, trivial, trivial, trivial, trivial, trivial, trivial, p1, trivial, trivial, trivial, trivial, trivial, trivial, trivial, trivial, trivial, trivial, trivial⟩ h
theorem vc_X12_cases_0 {call : Nat → List Value → ab_S → Option Value → ab_S → Prop} {ro : ab_E} {Q : Option Value → ab_S → Prop} (x1 : Int32) (x2 : Int32) (mi : Nat → Nat → Int32) (ml : Nat → Nat → Int64)
    (h : ∃ (r3 : Int32) (mi1 : Nat → Nat → Int32) (ml2 : Nat → Nat → Int64), call 178 [.int x1, .int 0, .int 3] (ab_G (ab_ui mi 40 0 0) ml) (some (.int r3)) (ab_G mi1 ml2) ∧ (((r3 = 0) → (Q (some (.int (-1))) (ab_G mi1 ml2))) ∧ (¬ (r3 = 0) → (∃ (r6 : Int32) (mi4 : Nat → Nat → Int32) (ml5 : Nat → Nat → Int64), call 178 [.int x2, .int 0, .int 1] (ab_G mi1 ml2) (some (.int r6)) (ab_G mi4 ml5) ∧ (((r6 = 0) → (Q (some (.int (-1))) (ab_G mi4 ml5))) ∧ (¬ (r6 = 0) → (∃ (mi7 : Nat → Nat → Int32) (ml8 : Nat → Nat → Int64), call 221 [.ref 40, .int x1] (ab_G mi4 ml5) none (ab_G mi7 ml8) ∧ ((((mi7 40 58) < 0) → (Q (some (.int (-1))) (ab_G mi7 ml8))) ∧ (¬ ((mi7 40 58) < 0) → (∃ (mi9 : Nat → Nat → Int32) (ml10 : Nat → Nat → Int64), call 190 [.ref 40] (ab_G mi7 ml8) none (ab_G mi9 ml10) ∧ (∃ (mi11 : Nat → Nat → Int32) (ml12 : Nat → Nat → Int64), call 210 [.ref 40, .int (mi9 40 58)] (ab_G mi9 ml10) none (ab_G mi11 ml12) ∧ (∃ (mi13 : Nat → Nat → Int32) (ml14 : Nat → Nat → Int64), call 187 [.ref 40] (ab_G mi11 ml12) none (ab_G mi13 ml14) ∧ (ab_W call ro 0 0 (ab_lk2 pl_X12_cases) Q (72, [some (.ref 40), some (.int x1), some (.int x2), some (.long (ml10 40 40)), none, some (.long (ml10 40 41)), none, some (.int 0), some (.int 0), none, none], [], 0, 0, (ab_G mi13 ml14))))))))))))))) :
    ab_W call ro 0 0 (ab_lk2 pl_X12_cases) Q (0, [some (.ref 40), some (.int x1), some (.int x2), none, none, none, none, none, none, none, none], [], 0, 0, ab_G mi ml) := by
  obtain ⟨r3, mi1, ml2, hc, h⟩ := h
  refine ab_wc 7 (c := 178) (as := [.int x1, .int 0, .int 3]) (pc := 11) (ll := [some (.ref 40), some (.int x1), some (.int x2), none, none, none, none, none, none, none, none]) (st := []) (c1 := 0) (s1 := 0) (g := (ab_G (ab_ui mi 40 0 0) ml)) rfl ⟨trivial, trivial, trivial, trivial, trivial, trivial, trivial⟩ hc ?_
  refine ab_wk 1 (f' := (if r3 = 0 then 23 else 14, [some (.ref 40), some (.int x1), some (.int x2), none, none, none, none, none, none, none, none], [], 0, 0, (ab_G mi1 ml2))) rfl ⟨trivial, trivial⟩ ?_
  refine ab_wi (fun c => ?_) (fun c => ?_)
  · have h := h.1 c
    exact ab_wr 2 rfl ⟨trivial, trivial⟩ h
  · have h := h.2 c
    obtain ⟨r6, mi4, ml5, hc, h⟩ := h
    refine ab_wc 4 (c := 178) (as := [.int x2, .int 0, .int 1]) (pc := 20) (ll := [some (.ref 40), some (.int x1), some (.int x2), none, none, none, none, none, none, none, none]) (st := []) (c1 := 0) (s1 := 0) (g := (ab_G mi1 ml2)) rfl ⟨trivial, trivial, trivial, trivial⟩ hc ?_
    refine ab_wk 1 (f' := (if r6 = 0 then 23 else 25, [some (.ref 40), some (.int x1), some (.int x2), none, none, none, none, none, none, none, none], [], 0, 0, (ab_G mi4 ml5))) rfl ⟨trivial, trivial⟩ ?_
    refine ab_wi (fun c => ?_) (fun c => ?_)
    · have h := h.1 c
      exact ab_wr 2 rfl ⟨trivial, trivial⟩ h
    · have h := h.2 c
      obtain ⟨mi7, ml8, hc, h⟩ := h
      refine ab_wc 3 (c := 221) (as := [.ref 40, .int x1]) (pc := 30) (ll := [some (.ref 40), some (.int x1), some (.int x2), none, none, none, none, none, none, none, none]) (st := []) (c1 := 0) (s1 := 0) (g := (ab_G mi4 ml5)) rfl ⟨trivial, trivial, trivial⟩ hc ?_
      refine ab_wk 3 (f' := (if (mi7 40 58) < 0 then 37 else 39, [some (.ref 40), some (.int x1), some (.int x2), none, none, none, none, none, none, none, none], [], 0, 0, (ab_G mi7 ml8))) rfl ⟨trivial, trivial, trivial, trivial⟩ ?_
      refine ab_wi (fun c => ?_) (fun c => ?_)
      · have h := h.1 c
        exact ab_wr 2 rfl ⟨trivial, trivial⟩ h
      · have h := h.2 c
        obtain ⟨mi9, ml10, hc, h⟩ := h
        refine ab_wc 2 (c := 190) (as := [.ref 40]) (pc := 43) (ll := [some (.ref 40), some (.int x1), some (.int x2), none, none, none, none, none, none, none, none]) (st := []) (c1 := 0) (s1 := 0) (g := (ab_G mi7 ml8)) rfl ⟨trivial, trivial⟩ hc ?_
        obtain ⟨mi11, ml12, hc, h⟩ := h
        refine ab_wc 10 (c := 210) (as := [.ref 40, .int (mi9 40 58)]) (pc := 62) (ll := [some (.ref 40), some (.int x1), some (.int x2), some (.long (ml10 40 40)), none, some (.long (ml10 40 41)), none, none, none, none, none]) (st := []) (c1 := 0) (s1 := 0) (g := (ab_G mi9 ml10)) rfl ⟨trivial, trivial, trivial, trivial, trivial, trivial, trivial, trivial, trivial, trivial⟩ hc ?_
        obtain ⟨mi13, ml14, hc, h⟩ := h
        refine ab_wc 2 (c := 187) (as := [.ref 40]) (pc := 66) (ll := [some (.ref 40), some (.int x1), some (.int x2), some (.long (ml10 40 40)), none, some (.long (ml10 40 41)), none, none, none, none, none]) (st := []) (c1 := 0) (s1 := 0) (g := (ab_G mi11 ml12)) rfl ⟨trivial, trivial⟩ hc ?_
        exact ab_wk 4 (f' := (72, [some (.ref 40), some (.int x1), some (.int x2), some (.long (ml10 40 40)), none, some (.long (ml10 40 41)), none, some (.int 0), some (.int 0), none, none], [], 0, 0, (ab_G mi13 ml14))) rfl ⟨trivial, trivial, trivial, trivial, trivial⟩ h
theorem vc_X12_cases_72 {call : Nat → List Value → ab_S → Option Value → ab_S → Prop} {ro : ab_E} {Q : Option Value → ab_S → Prop} (y1 : Int32) (y2 : Int32) (y3 : Int64) (y5 : Int64) (y7 : Int32) (y8 : Int32) (mi : Nat → Nat → Int32) (ml : Nat → Nat → Int64)
    (h : ((y8 < (mi 40 69)) → (vp_in y8 40 ∧ (∃ (r17 : Int32) (mi15 : Nat → Nat → Int32) (ml16 : Nat → Nat → Int64), call 160 [.long y3, .long y5, .int (mi 81 (y8).toNatClampNeg)] (ab_G mi ml) (some (.int r17)) (ab_G mi15 ml16) ∧ (vp_in y8 40 ∧ (∃ (r20 : Int32) (mi18 : Nat → Nat → Int32) (ml19 : Nat → Nat → Int64), call 160 [.long (ml16 40 40), .long (ml16 40 41), .int (mi15 81 (y8).toNatClampNeg)] (ab_G mi15 ml16) (some (.int r20)) (ab_G mi18 ml19) ∧ (vp_in y8 40 ∧ (∃ (r23 : Int32) (mi21 : Nat → Nat → Int32) (ml22 : Nat → Nat → Int64), call 181 [.ref 40] (ab_G mi18 ml19) (some (.int r23)) (ab_G mi21 ml22) ∧ (((r23 < (mi18 82 (y8).toNatClampNeg)) → (ab_W call ro 0 0 (ab_lk2 pl_X12_cases) Q (72, [some (.ref 40), some (.int y1), some (.int y2), some (.long y3), none, some (.long y5), none, some (.int (y7 + 0)), some (.int (y8 + 1)), none, none], [], 0, 0, (ab_G mi21 ml22)))) ∧ (¬ (r23 < (mi18 82 (y8).toNatClampNeg)) → (((r17 = r20) → (ab_W call ro 0 0 (ab_lk2 pl_X12_cases) Q (72, [some (.ref 40), some (.int y1), some (.int y2), some (.long y3), none, some (.long y5), none, some (.int (y7 + 0)), some (.int (y8 + 1)), none, none], [], 0, 0, (ab_G mi21 ml22)))) ∧ (¬ (r17 = r20) → (((y2 = 0) → (((r17 = 1) → (ab_W call ro 0 0 (ab_lk2 pl_X12_cases) Q (72, [some (.ref 40), some (.int y1), some (.int y2), some (.long y3), none, some (.long y5), none, some (.int (y7 + 1)), some (.int (y8 + 1)), none, none], [], 0, 0, (ab_G mi21 ml22)))) ∧ (¬ (r17 = 1) → (ab_W call ro 0 0 (ab_lk2 pl_X12_cases) Q (72, [some (.ref 40), some (.int y1), some (.int y2), some (.long y3), none, some (.long y5), none, some (.int (y7 + 0)), some (.int (y8 + 1)), none, none], [], 0, 0, (ab_G mi21 ml22)))))) ∧ (¬ (y2 = 0) → (((r17 = 0) → (ab_W call ro 0 0 (ab_lk2 pl_X12_cases) Q (72, [some (.ref 40), some (.int y1), some (.int y2), some (.long y3), none, some (.long y5), none, some (.int (y7 + 1)), some (.int (y8 + 1)), none, none], [], 0, 0, (ab_G mi21 ml22)))) ∧ (¬ (r17 = 0) → (ab_W call ro 0 0 (ab_lk2 pl_X12_cases) Q (72, [some (.ref 40), some (.int y1), some (.int y2), some (.long y3), none, some (.long y5), none, some (.int (y7 + 0)), some (.int (y8 + 1)), none, none], [], 0, 0, (ab_G mi21 ml22)))))))))))))))))) ∧ (¬ (y8 < (mi 40 69)) → (Q (some (.int y7)) (ab_G mi ml)))) :
    ab_W call ro 0 0 (ab_lk2 pl_X12_cases) Q (72, [some (.ref 40), some (.int y1), some (.int y2), some (.long y3), none, some (.long y5), none, some (.int y7), some (.int y8), none, none], [], 0, 0, ab_G mi ml) := by
  refine ab_wk 4 (f' := (if y8 < (mi 40 69) then 81 else 167, [some (.ref 40), some (.int y1), some (.int y2), some (.long y3), none, some (.long y5), none, some (.int y7), some (.int y8), none, none], [], 0, 0, (ab_G mi ml))) rfl ⟨trivial, trivial, trivial, trivial, trivial⟩ ?_
  refine ab_wi (fun c => ?_) (fun c => ?_)
  · have h := h.1 c
    obtain ⟨p0, h⟩ := h
    obtain ⟨r17, mi15, ml16, hc, h⟩ := h
    refine ab_wc 7 (c := 160) (as := [.long y3, .long y5, .int (mi 81 (y8).toNatClampNeg)]) (pc := 94) (ll := [some (.ref 40), some (.int y1), some (.int y2), some (.long y3), none, some (.long y5), none, some (.int y7), some (.int y8), none, none]) (st := []) (c1 := 0) (s1 := 0) (g := (ab_G mi ml)) rfl ⟨trivial, trivial, trivial, trivial, trivial, p0, trivial⟩ hc ?_
    obtain ⟨p0, h⟩ := h
    obtain ⟨r20, mi18, ml19, hc, h⟩ := h
    refine ab_wc 10 (c := 160) (as := [.long (ml16 40 40), .long (ml16 40 41), .int (mi15 81 (y8).toNatClampNeg)]) (pc := 114) (ll := [some (.ref 40), some (.int y1), some (.int y2), some (.long y3), none, some (.long y5), none, some (.int y7), some (.int y8), some (.int r17), none]) (st := []) (c1 := 0) (s1 := 0) (g := (ab_G mi15 ml16)) rfl ⟨trivial, trivial, trivial, trivial, trivial, trivial, trivial, trivial, p0, trivial⟩ hc ?_
    obtain ⟨p0, h⟩ := h
    obtain ⟨r23, mi21, ml22, hc, h⟩ := h
    refine ab_wc 8 (c := 181) (as := [.ref 40]) (pc := 129) (ll := [some (.ref 40), some (.int y1), some (.int y2), some (.long y3), none, some (.long y5), none, some (.int y7), some (.int y8), some (.int r17), some (.int r20)]) (st := [.int (mi18 82 (y8).toNatClampNeg), .int y7]) (c1 := 0) (s1 := 0) (g := (ab_G mi18 ml19)) rfl ⟨trivial, trivial, trivial, trivial, trivial, p0, trivial, trivial⟩ hc ?_
    refine ab_wk 1 (f' := (if r23 < (mi18 82 (y8).toNatClampNeg) then 157 else 132, [some (.ref 40), some (.int y1), some (.int y2), some (.long y3), none, some (.long y5), none, some (.int y7), some (.int y8), some (.int r17), some (.int r20)], [.int y7], 0, 0, (ab_G mi21 ml22))) rfl ⟨trivial, trivial⟩ ?_
    refine ab_wi (fun c => ?_) (fun c => ?_)
    · have h := h.1 c
      exact ab_wk 5 (f' := (72, [some (.ref 40), some (.int y1), some (.int y2), some (.long y3), none, some (.long y5), none, some (.int (y7 + 0)), some (.int (y8 + 1)), some (.int r17), some (.int r20)], [], 0, 0, (ab_G mi21 ml22))) rfl ⟨trivial, trivial, trivial, trivial, trivial, trivial⟩ (ab_drop h (ab_lrc _ (ab_lrc _ (ab_lrc _ (ab_lrc _ (ab_lrc _ (ab_lrc _ (ab_lrc _ (ab_lrc _ (ab_lrc _ (ab_lrn _ (ab_lrn _ ab_lr0))))))))))))
    · have h := h.2 c
      refine ab_wk 3 (f' := (if r17 = r20 then 157 else 139, [some (.ref 40), some (.int y1), some (.int y2), some (.long y3), none, some (.long y5), none, some (.int y7), some (.int y8), some (.int r17), some (.int r20)], [.int y7], 0, 0, (ab_G mi21 ml22))) rfl ⟨trivial, trivial, trivial, trivial⟩ ?_
      refine ab_wi (fun c => ?_) (fun c => ?_)
      · have h := h.1 c
        exact ab_wk 5 (f' := (72, [some (.ref 40), some (.int y1), some (.int y2), some (.long y3), none, some (.long y5), none, some (.int (y7 + 0)), some (.int (y8 + 1)), some (.int r17), some (.int r20)], [], 0, 0, (ab_G mi21 ml22))) rfl ⟨trivial, trivial, trivial, trivial, trivial, trivial⟩ (ab_drop h (ab_lrc _ (ab_lrc _ (ab_lrc _ (ab_lrc _ (ab_lrc _ (ab_lrc _ (ab_lrc _ (ab_lrc _ (ab_lrc _ (ab_lrn _ (ab_lrn _ ab_lr0))))))))))))
      · have h := h.2 c
        refine ab_wk 3 (f' := (if y2 = 0 then 145 else 149, [some (.ref 40), some (.int y1), some (.int y2), some (.long y3), none, some (.long y5), none, some (.int y7), some (.int y8), some (.int r17), some (.int r20)], [.int r17, .int y7], 0, 0, (ab_G mi21 ml22))) rfl ⟨trivial, trivial, trivial, trivial⟩ ?_
        refine ab_wi (fun c => ?_) (fun c => ?_)
        · have h := h.1 c
          refine ab_wk 3 (f' := (if r17 = 1 then 153 else 157, [some (.ref 40), some (.int y1), some (.int y2), some (.long y3), none, some (.long y5), none, some (.int y7), some (.int y8), some (.int r17), some (.int r20)], [.int y7], 0, 0, (ab_G mi21 ml22))) rfl ⟨trivial, trivial, trivial, trivial⟩ ?_
          refine ab_wi (fun c => ?_) (fun c => ?_)
          · have h := h.1 c
            exact ab_wk 6 (f' := (72, [some (.ref 40), some (.int y1), some (.int y2), some (.long y3), none, some (.long y5), none, some (.int (y7 + 1)), some (.int (y8 + 1)), some (.int r17), some (.int r20)], [], 0, 0, (ab_G mi21 ml22))) rfl ⟨trivial, trivial, trivial, trivial, trivial, trivial, trivial⟩ (ab_drop h (ab_lrc _ (ab_lrc _ (ab_lrc _ (ab_lrc _ (ab_lrc _ (ab_lrc _ (ab_lrc _ (ab_lrc _ (ab_lrc _ (ab_lrn _ (ab_lrn _ ab_lr0))))))))))))
          · have h := h.2 c
            exact ab_wk 5 (f' := (72, [some (.ref 40), some (.int y1), some (.int y2), some (.long y3), none, some (.long y5), none, some (.int (y7 + 0)), some (.int (y8 + 1)), some (.int r17), some (.int r20)], [], 0, 0, (ab_G mi21 ml22))) rfl ⟨trivial, trivial, trivial, trivial, trivial, trivial⟩ (ab_drop h (ab_lrc _ (ab_lrc _ (ab_lrc _ (ab_lrc _ (ab_lrc _ (ab_lrc _ (ab_lrc _ (ab_lrc _ (ab_lrc _ (ab_lrn _ (ab_lrn _ ab_lr0))))))))))))
        · have h := h.2 c
          refine ab_wk 2 (f' := (if r17 = 0 then 153 else 157, [some (.ref 40), some (.int y1), some (.int y2), some (.long y3), none, some (.long y5), none, some (.int y7), some (.int y8), some (.int r17), some (.int r20)], [.int y7], 0, 0, (ab_G mi21 ml22))) rfl ⟨trivial, trivial, trivial⟩ ?_
          refine ab_wi (fun c => ?_) (fun c => ?_)
          · have h := h.1 c
            exact ab_wk 6 (f' := (72, [some (.ref 40), some (.int y1), some (.int y2), some (.long y3), none, some (.long y5), none, some (.int (y7 + 1)), some (.int (y8 + 1)), some (.int r17), some (.int r20)], [], 0, 0, (ab_G mi21 ml22))) rfl ⟨trivial, trivial, trivial, trivial, trivial, trivial, trivial⟩ (ab_drop h (ab_lrc _ (ab_lrc _ (ab_lrc _ (ab_lrc _ (ab_lrc _ (ab_lrc _ (ab_lrc _ (ab_lrc _ (ab_lrc _ (ab_lrn _ (ab_lrn _ ab_lr0))))))))))))
          · have h := h.2 c
            exact ab_wk 5 (f' := (72, [some (.ref 40), some (.int y1), some (.int y2), some (.long y3), none, some (.long y5), none, some (.int (y7 + 0)), some (.int (y8 + 1)), some (.int r17), some (.int r20)], [], 0, 0, (ab_G mi21 ml22))) rfl ⟨trivial, trivial, trivial, trivial, trivial, trivial⟩ (ab_drop h (ab_lrc _ (ab_lrc _ (ab_lrc _ (ab_lrc _ (ab_lrc _ (ab_lrc _ (ab_lrc _ (ab_lrc _ (ab_lrc _ (ab_lrn _ (ab_lrn _ ab_lr0))))))))))))
  · have h := h.2 c
    exact ab_wr 2 rfl ⟨trivial, trivial⟩ h
theorem vc_X12_casesSeen_0 {call : Nat → List Value → ab_S → Option Value → ab_S → Prop} {ro : ab_E} {Q : Option Value → ab_S → Prop}  (mi : Nat → Nat → Int32) (ml : Nat → Nat → Int64)
    (h : ab_W call ro 0 0 (ab_lk2 pl_X12_casesSeen) Q (4, [some (.ref 40), some (.int 0), some (.int 0)], [], 0, 0, (ab_G mi ml))) :
    ab_W call ro 0 0 (ab_lk2 pl_X12_casesSeen) Q (0, [some (.ref 40), none, none], [], 0, 0, ab_G mi ml) := by
  exact ab_wk 4 (f' := (4, [some (.ref 40), some (.int 0), some (.int 0)], [], 0, 0, (ab_G mi ml))) rfl ⟨trivial, trivial, trivial, trivial, trivial⟩ h
theorem vc_X12_casesSeen_4 {call : Nat → List Value → ab_S → Option Value → ab_S → Prop} {ro : ab_E} {Q : Option Value → ab_S → Prop} (y1 : Int32) (y2 : Int32) (mi : Nat → Nat → Int32) (ml : Nat → Nat → Int64)
    (h : ((y2 < (mi 40 69)) → (vp_in y2 40 ∧ (∃ (r3 : Int32) (mi1 : Nat → Nat → Int32) (ml2 : Nat → Nat → Int64), call 181 [.ref 40] (ab_G mi ml) (some (.int r3)) (ab_G mi1 ml2) ∧ (((r3 < (mi 82 (y2).toNatClampNeg)) → (ab_W call ro 0 0 (ab_lk2 pl_X12_casesSeen) Q (4, [some (.ref 40), some (.int (y1 + 0)), some (.int (y2 + 1))], [], 0, 0, (ab_G mi1 ml2)))) ∧ (¬ (r3 < (mi 82 (y2).toNatClampNeg)) → (ab_W call ro 0 0 (ab_lk2 pl_X12_casesSeen) Q (4, [some (.ref 40), some (.int (y1 + 1)), some (.int (y2 + 1))], [], 0, 0, (ab_G mi1 ml2)))))))) ∧ (¬ (y2 < (mi 40 69)) → (Q (some (.int y1)) (ab_G mi ml)))) :
    ab_W call ro 0 0 (ab_lk2 pl_X12_casesSeen) Q (4, [some (.ref 40), some (.int y1), some (.int y2)], [], 0, 0, ab_G mi ml) := by
  refine ab_wk 4 (f' := (if y2 < (mi 40 69) then 12 else 39, [some (.ref 40), some (.int y1), some (.int y2)], [], 0, 0, (ab_G mi ml))) rfl ⟨trivial, trivial, trivial, trivial, trivial⟩ ?_
  refine ab_wi (fun c => ?_) (fun c => ?_)
  · have h := h.1 c
    obtain ⟨p0, h⟩ := h
    obtain ⟨r3, mi1, ml2, hc, h⟩ := h
    refine ab_wc 7 (c := 181) (as := [.ref 40]) (pc := 23) (ll := [some (.ref 40), some (.int y1), some (.int y2)]) (st := [.int (mi 82 (y2).toNatClampNeg), .int y1]) (c1 := 0) (s1 := 0) (g := (ab_G mi ml)) rfl ⟨trivial, trivial, trivial, trivial, p0, trivial, trivial⟩ hc ?_
    refine ab_wk 1 (f' := (if r3 < (mi 82 (y2).toNatClampNeg) then 30 else 26, [some (.ref 40), some (.int y1), some (.int y2)], [.int y1], 0, 0, (ab_G mi1 ml2))) rfl ⟨trivial, trivial⟩ ?_
    refine ab_wi (fun c => ?_) (fun c => ?_)
    · have h := h.1 c
      exact ab_wk 5 (f' := (4, [some (.ref 40), some (.int (y1 + 0)), some (.int (y2 + 1))], [], 0, 0, (ab_G mi1 ml2))) rfl ⟨trivial, trivial, trivial, trivial, trivial, trivial⟩ h
    · have h := h.2 c
      exact ab_wk 6 (f' := (4, [some (.ref 40), some (.int (y1 + 1)), some (.int (y2 + 1))], [], 0, 0, (ab_G mi1 ml2))) rfl ⟨trivial, trivial, trivial, trivial, trivial, trivial, trivial⟩ h
  · have h := h.2 c
    exact ab_wr 2 rfl ⟨trivial, trivial⟩ h
theorem vc_X12_blamed_0 {call : Nat → List Value → ab_S → Option Value → ab_S → Prop} {ro : ab_E} {Q : Option Value → ab_S → Prop} (x1 : Int32) (x2 : Int32) (mi : Nat → Nat → Int32) (ml : Nat → Nat → Int64)
    (h : ((x1 < 0) → (Q (some (.int (-1))) (ab_G (ab_ui mi 40 0 0) ml))) ∧ (¬ (x1 < 0) → (((x1 < (mi 40 69)) → (vp_in x1 40 ∧ (∃ (r3 : Int32) (mi1 : Nat → Nat → Int32) (ml2 : Nat → Nat → Int64), call 181 [.ref 40] (ab_G (ab_ui mi 40 0 0) ml) (some (.int r3)) (ab_G mi1 ml2) ∧ (((r3 < (mi 82 (x1).toNatClampNeg)) → (Q (some (.int (-1))) (ab_G mi1 ml2))) ∧ (¬ (r3 < (mi 82 (x1).toNatClampNeg)) → (∃ (r6 : Int32) (mi4 : Nat → Nat → Int32) (ml5 : Nat → Nat → Int64), call 178 [.int x2, .int 0, .int 3] (ab_G mi1 ml2) (some (.int r6)) (ab_G mi4 ml5) ∧ (((r6 = 0) → (Q (some (.int (-1))) (ab_G mi4 ml5))) ∧ (¬ (r6 = 0) → (∃ (mi7 : Nat → Nat → Int32) (ml8 : Nat → Nat → Int64), call 221 [.ref 40, .int x2] (ab_G mi4 ml5) none (ab_G mi7 ml8) ∧ ((((mi7 40 58) < 0) → (Q (some (.int (-1))) (ab_G mi7 ml8))) ∧ (¬ ((mi7 40 58) < 0) → (∃ (mi9 : Nat → Nat → Int32) (ml10 : Nat → Nat → Int64), call 190 [.ref 40] (ab_G mi7 ml8) none (ab_G mi9 ml10) ∧ (vp_in x1 40 ∧ (∃ (r13 : Int32) (mi11 : Nat → Nat → Int32) (ml12 : Nat → Nat → Int64), call 160 [.long (ml10 40 40), .long (ml10 40 41), .int (mi9 81 (x1).toNatClampNeg)] (ab_G mi9 ml10) (some (.int r13)) (ab_G mi11 ml12) ∧ (∃ (mi14 : Nat → Nat → Int32) (ml15 : Nat → Nat → Int64), call 210 [.ref 40, .int (mi11 40 58)] (ab_G mi11 ml12) none (ab_G mi14 ml15) ∧ (∃ (mi16 : Nat → Nat → Int32) (ml17 : Nat → Nat → Int64), call 187 [.ref 40] (ab_G mi14 ml15) none (ab_G mi16 ml17) ∧ (vp_in x1 40 ∧ (∃ (r20 : Int32) (mi18 : Nat → Nat → Int32) (ml19 : Nat → Nat → Int64), call 160 [.long (ml17 40 40), .long (ml17 40 41), .int (mi16 81 (x1).toNatClampNeg)] (ab_G mi16 ml17) (some (.int r20)) (ab_G mi18 ml19) ∧ (((r20 = r13) → (Q (some (.int (-1))) (ab_G mi18 ml19))) ∧ (¬ (r20 = r13) → (ab_W call ro 0 0 (ab_lk2 pl_X12_blamed) Q (115, [some (.ref 40), some (.int x1), some (.int x2), some (.int r13), some (.int 0)], [], 0, 0, (ab_G mi18 ml19))))))))))))))))))))))) ∧ (¬ (x1 < (mi 40 69)) → (Q (some (.int (-1))) (ab_G (ab_ui mi 40 0 0) ml)))))) :
    ab_W call ro 0 0 (ab_lk2 pl_X12_blamed) Q (0, [some (.ref 40), some (.int x1), some (.int x2), none, none], [], 0, 0, ab_G mi ml) := by
  refine ab_wk 5 (f' := (if x1 < 0 then 39 else 9, [some (.ref 40), some (.int x1), some (.int x2), none, none], [], 0, 0, (ab_G (ab_ui mi 40 0 0) ml))) rfl ⟨trivial, trivial, trivial, trivial, trivial, trivial⟩ ?_
  refine ab_wi (fun c => ?_) (fun c => ?_)
  · have h := h.1 c
    exact ab_wr 2 rfl ⟨trivial, trivial⟩ h
  · have h := h.2 c
    refine ab_wk 4 (f' := (if x1 < (mi 40 69) then 17 else 39, [some (.ref 40), some (.int x1), some (.int x2), none, none], [], 0, 0, (ab_G (ab_ui mi 40 0 0) ml))) rfl ⟨trivial, trivial, trivial, trivial, trivial⟩ ?_
    refine ab_wi (fun c => ?_) (fun c => ?_)
    · have h := h.1 c
      obtain ⟨p0, h⟩ := h
      obtain ⟨r3, mi1, ml2, hc, h⟩ := h
      refine ab_wc 6 (c := 181) (as := [.ref 40]) (pc := 27) (ll := [some (.ref 40), some (.int x1), some (.int x2), none, none]) (st := [.int (mi 82 (x1).toNatClampNeg)]) (c1 := 0) (s1 := 0) (g := (ab_G (ab_ui mi 40 0 0) ml)) rfl ⟨trivial, trivial, trivial, p0, trivial, trivial⟩ hc ?_
      refine ab_wk 1 (f' := (if r3 < (mi 82 (x1).toNatClampNeg) then 39 else 30, [some (.ref 40), some (.int x1), some (.int x2), none, none], [], 0, 0, (ab_G mi1 ml2))) rfl ⟨trivial, trivial⟩ ?_
      refine ab_wi (fun c => ?_) (fun c => ?_)
      · have h := h.1 c
        exact ab_wr 2 rfl ⟨trivial, trivial⟩ h
      · have h := h.2 c
        obtain ⟨r6, mi4, ml5, hc, h⟩ := h
        refine ab_wc 4 (c := 178) (as := [.int x2, .int 0, .int 3]) (pc := 36) (ll := [some (.ref 40), some (.int x1), some (.int x2), none, none]) (st := []) (c1 := 0) (s1 := 0) (g := (ab_G mi1 ml2)) rfl ⟨trivial, trivial, trivial, trivial⟩ hc ?_
        refine ab_wk 1 (f' := (if r6 = 0 then 39 else 41, [some (.ref 40), some (.int x1), some (.int x2), none, none], [], 0, 0, (ab_G mi4 ml5))) rfl ⟨trivial, trivial⟩ ?_
        refine ab_wi (fun c => ?_) (fun c => ?_)
        · have h := h.1 c
          exact ab_wr 2 rfl ⟨trivial, trivial⟩ h
        · have h := h.2 c
          obtain ⟨mi7, ml8, hc, h⟩ := h
          refine ab_wc 3 (c := 221) (as := [.ref 40, .int x2]) (pc := 46) (ll := [some (.ref 40), some (.int x1), some (.int x2), none, none]) (st := []) (c1 := 0) (s1 := 0) (g := (ab_G mi4 ml5)) rfl ⟨trivial, trivial, trivial⟩ hc ?_
          refine ab_wk 3 (f' := (if (mi7 40 58) < 0 then 53 else 55, [some (.ref 40), some (.int x1), some (.int x2), none, none], [], 0, 0, (ab_G mi7 ml8))) rfl ⟨trivial, trivial, trivial, trivial⟩ ?_
          refine ab_wi (fun c => ?_) (fun c => ?_)
          · have h := h.1 c
            exact ab_wr 2 rfl ⟨trivial, trivial⟩ h
          · have h := h.2 c
            obtain ⟨mi9, ml10, hc, h⟩ := h
            refine ab_wc 2 (c := 190) (as := [.ref 40]) (pc := 59) (ll := [some (.ref 40), some (.int x1), some (.int x2), none, none]) (st := []) (c1 := 0) (s1 := 0) (g := (ab_G mi7 ml8)) rfl ⟨trivial, trivial⟩ hc ?_
            obtain ⟨p0, h⟩ := h
            obtain ⟨r13, mi11, ml12, hc, h⟩ := h
            refine ab_wc 9 (c := 160) (as := [.long (ml10 40 40), .long (ml10 40 41), .int (mi9 81 (x1).toNatClampNeg)]) (pc := 76) (ll := [some (.ref 40), some (.int x1), some (.int x2), none, none]) (st := []) (c1 := 0) (s1 := 0) (g := (ab_G mi9 ml10)) rfl ⟨trivial, trivial, trivial, trivial, trivial, trivial, trivial, p0, trivial⟩ hc ?_
            obtain ⟨mi14, ml15, hc, h⟩ := h
            refine ab_wc 5 (c := 210) (as := [.ref 40, .int (mi11 40 58)]) (pc := 85) (ll := [some (.ref 40), some (.int x1), some (.int x2), some (.int r13), none]) (st := []) (c1 := 0) (s1 := 0) (g := (ab_G mi11 ml12)) rfl ⟨trivial, trivial, trivial, trivial, trivial⟩ hc ?_
            obtain ⟨mi16, ml17, hc, h⟩ := h
            refine ab_wc 2 (c := 187) (as := [.ref 40]) (pc := 89) (ll := [some (.ref 40), some (.int x1), some (.int x2), some (.int r13), none]) (st := []) (c1 := 0) (s1 := 0) (g := (ab_G mi14 ml15)) rfl ⟨trivial, trivial⟩ hc ?_
            obtain ⟨p0, h⟩ := h
            obtain ⟨r20, mi18, ml19, hc, h⟩ := h
            refine ab_wc 9 (c := 160) (as := [.long (ml17 40 40), .long (ml17 40 41), .int (mi16 81 (x1).toNatClampNeg)]) (pc := 106) (ll := [some (.ref 40), some (.int x1), some (.int x2), some (.int r13), none]) (st := []) (c1 := 0) (s1 := 0) (g := (ab_G mi16 ml17)) rfl ⟨trivial, trivial, trivial, trivial, trivial, trivial, trivial, p0, trivial⟩ hc ?_
            refine ab_wk 2 (f' := (if r20 = r13 then 110 else 112, [some (.ref 40), some (.int x1), some (.int x2), some (.int r13), none], [], 0, 0, (ab_G mi18 ml19))) rfl ⟨trivial, trivial, trivial⟩ ?_
            refine ab_wi (fun c => ?_) (fun c => ?_)
            · have h := h.1 c
              exact ab_wr 2 rfl ⟨trivial, trivial⟩ h
            · have h := h.2 c
              exact ab_wk 2 (f' := (115, [some (.ref 40), some (.int x1), some (.int x2), some (.int r13), some (.int 0)], [], 0, 0, (ab_G mi18 ml19))) rfl ⟨trivial, trivial, trivial⟩ h
    · have h := h.2 c
      exact ab_wr 2 rfl ⟨trivial, trivial⟩ h
theorem vc_X12_blamed_115 {call : Nat → List Value → ab_S → Option Value → ab_S → Prop} {ro : ab_E} {Q : Option Value → ab_S → Prop} (y1 : Int32) (y2 : Int32) (y3 : Int32) (y4 : Int32) (mi : Nat → Nat → Int32) (ml : Nat → Nat → Int64)
    (h : ((y4 < (mi 40 45)) → ((((((mi 40 58) >>> (y4 &&& 31)) &&& 1) = 1) → (∃ (mi21 : Nat → Nat → Int32) (ml22 : Nat → Nat → Int64), call 210 [.ref 40, .int ((mi 40 58) &&& (((1 : Int32) <<< (y4 &&& 31)) ^^^ (-1)))] (ab_G mi ml) none (ab_G mi21 ml22) ∧ (∃ (mi23 : Nat → Nat → Int32) (ml24 : Nat → Nat → Int64), call 187 [.ref 40] (ab_G mi21 ml22) none (ab_G mi23 ml24) ∧ (vp_in y1 40 ∧ (∃ (r27 : Int32) (mi25 : Nat → Nat → Int32) (ml26 : Nat → Nat → Int64), call 160 [.long (ml24 40 40), .long (ml24 40 41), .int (mi23 81 (y1).toNatClampNeg)] (ab_G mi23 ml24) (some (.int r27)) (ab_G mi25 ml26) ∧ (((r27 = y3) → (Q (some (.int y4)) (ab_G mi25 ml26))) ∧ (¬ (r27 = y3) → (ab_W call ro 0 0 (ab_lk2 pl_X12_blamed) Q (115, [some (.ref 40), some (.int y1), some (.int y2), some (.int y3), some (.int (y4 + 1))], [], 0, 0, (ab_G mi25 ml26)))))))))) ∧ (¬ ((((mi 40 58) >>> (y4 &&& 31)) &&& 1) = 1) → (ab_W call ro 0 0 (ab_lk2 pl_X12_blamed) Q (115, [some (.ref 40), some (.int y1), some (.int y2), some (.int y3), some (.int (y4 + 1))], [], 0, 0, (ab_G mi ml)))))) ∧ (¬ (y4 < (mi 40 45)) → (Q (some (.int (-1))) (ab_G mi ml)))) :
    ab_W call ro 0 0 (ab_lk2 pl_X12_blamed) Q (115, [some (.ref 40), some (.int y1), some (.int y2), some (.int y3), some (.int y4)], [], 0, 0, ab_G mi ml) := by
  refine ab_wk 4 (f' := (if y4 < (mi 40 45) then 124 else 186, [some (.ref 40), some (.int y1), some (.int y2), some (.int y3), some (.int y4)], [], 0, 0, (ab_G mi ml))) rfl ⟨trivial, trivial, trivial, trivial, trivial⟩ ?_
  refine ab_wi (fun c => ?_) (fun c => ?_)
  · have h := h.1 c
    refine ab_wk 8 (f' := (if (((mi 40 58) >>> (y4 &&& 31)) &&& 1) = 1 then 137 else 180, [some (.ref 40), some (.int y1), some (.int y2), some (.int y3), some (.int y4)], [], 0, 0, (ab_G mi ml))) rfl ⟨trivial, trivial, trivial, trivial, trivial, trivial, trivial, trivial, trivial⟩ ?_
    refine ab_wi (fun c => ?_) (fun c => ?_)
    · have h := h.1 c
      obtain ⟨mi21, ml22, hc, h⟩ := h
      refine ab_wc 10 (c := 210) (as := [.ref 40, .int ((mi 40 58) &&& (((1 : Int32) <<< (y4 &&& 31)) ^^^ (-1)))]) (pc := 152) (ll := [some (.ref 40), some (.int y1), some (.int y2), some (.int y3), some (.int y4)]) (st := []) (c1 := 0) (s1 := 0) (g := (ab_G mi ml)) rfl ⟨trivial, trivial, trivial, trivial, trivial, trivial, trivial, trivial, trivial, trivial⟩ hc ?_
      obtain ⟨mi23, ml24, hc, h⟩ := h
      refine ab_wc 2 (c := 187) (as := [.ref 40]) (pc := 156) (ll := [some (.ref 40), some (.int y1), some (.int y2), some (.int y3), some (.int y4)]) (st := []) (c1 := 0) (s1 := 0) (g := (ab_G mi21 ml22)) rfl ⟨trivial, trivial⟩ hc ?_
      obtain ⟨p0, h⟩ := h
      obtain ⟨r27, mi25, ml26, hc, h⟩ := h
      refine ab_wc 9 (c := 160) (as := [.long (ml24 40 40), .long (ml24 40 41), .int (mi23 81 (y1).toNatClampNeg)]) (pc := 173) (ll := [some (.ref 40), some (.int y1), some (.int y2), some (.int y3), some (.int y4)]) (st := []) (c1 := 0) (s1 := 0) (g := (ab_G mi23 ml24)) rfl ⟨trivial, trivial, trivial, trivial, trivial, trivial, trivial, p0, trivial⟩ hc ?_
      refine ab_wk 2 (f' := (if r27 = y3 then 177 else 180, [some (.ref 40), some (.int y1), some (.int y2), some (.int y3), some (.int y4)], [], 0, 0, (ab_G mi25 ml26))) rfl ⟨trivial, trivial, trivial⟩ ?_
      refine ab_wi (fun c => ?_) (fun c => ?_)
      · have h := h.1 c
        exact ab_wr 2 rfl ⟨trivial, trivial⟩ h
      · have h := h.2 c
        exact ab_wk 2 (f' := (115, [some (.ref 40), some (.int y1), some (.int y2), some (.int y3), some (.int (y4 + 1))], [], 0, 0, (ab_G mi25 ml26))) rfl ⟨trivial, trivial, trivial⟩ h
    · have h := h.2 c
      exact ab_wk 2 (f' := (115, [some (.ref 40), some (.int y1), some (.int y2), some (.int y3), some (.int (y4 + 1))], [], 0, 0, (ab_G mi ml))) rfl ⟨trivial, trivial, trivial⟩ h
  · have h := h.2 c
    exact ab_wr 2 rfl ⟨trivial, trivial⟩ h
theorem vc_X12_beside_0 {call : Nat → List Value → ab_S → Option Value → ab_S → Prop} {ro : ab_E} {Q : Option Value → ab_S → Prop} (x1 : Int32) (x2 : Int32) (mi : Nat → Nat → Int32) (ml : Nat → Nat → Int64)
    (h : ∃ (r3 : Int32) (mi1 : Nat → Nat → Int32) (ml2 : Nat → Nat → Int64), call 178 [.int x1, .int 0, .int 3] (ab_G (ab_ui mi 40 0 0) ml) (some (.int r3)) (ab_G mi1 ml2) ∧ (((r3 = 0) → (Q (some (.int (-1))) (ab_G mi1 ml2))) ∧ (¬ (r3 = 0) → (∃ (r6 : Int32) (mi4 : Nat → Nat → Int32) (ml5 : Nat → Nat → Int64), call 178 [.int x2, .int 0, .int 3] (ab_G mi1 ml2) (some (.int r6)) (ab_G mi4 ml5) ∧ (((r6 = 0) → (Q (some (.int (-1))) (ab_G mi4 ml5))) ∧ (¬ (r6 = 0) → (∃ (mi7 : Nat → Nat → Int32) (ml8 : Nat → Nat → Int64), call 221 [.ref 40, .int x1] (ab_G mi4 ml5) none (ab_G mi7 ml8) ∧ (∃ (mi9 : Nat → Nat → Int32) (ml10 : Nat → Nat → Int64), call 221 [.ref 40, .int x2] (ab_G mi7 ml8) none (ab_G mi9 ml10) ∧ ((((mi7 40 58) < 0) → (Q (some (.int (-1))) (ab_G mi9 ml10))) ∧ (¬ ((mi7 40 58) < 0) → ((((mi9 40 58) < 0) → (Q (some (.int (-1))) (ab_G mi9 ml10))) ∧ (¬ ((mi9 40 58) < 0) → (Q (some (.int ((mi7 40 58) &&& ((mi9 40 58) ^^^ (-1))))) (ab_G mi9 ml10)))))))))))))) :
    ab_W call ro 0 0 (ab_lk2 pl_X12_beside) Q (0, [some (.ref 40), some (.int x1), some (.int x2), none], [], 0, 0, ab_G mi ml) := by
  obtain ⟨r3, mi1, ml2, hc, h⟩ := h
  refine ab_wc 7 (c := 178) (as := [.int x1, .int 0, .int 3]) (pc := 11) (ll := [some (.ref 40), some (.int x1), some (.int x2), none]) (st := []) (c1 := 0) (s1 := 0) (g := (ab_G (ab_ui mi 40 0 0) ml)) rfl ⟨trivial, trivial, trivial, trivial, trivial, trivial, trivial⟩ hc ?_
  refine ab_wk 1 (f' := (if r3 = 0 then 23 else 14, [some (.ref 40), some (.int x1), some (.int x2), none], [], 0, 0, (ab_G mi1 ml2))) rfl ⟨trivial, trivial⟩ ?_
  refine ab_wi (fun c => ?_) (fun c => ?_)
  · have h := h.1 c
    exact ab_wr 2 rfl ⟨trivial, trivial⟩ h
  · have h := h.2 c
    obtain ⟨r6, mi4, ml5, hc, h⟩ := h
    refine ab_wc 4 (c := 178) (as := [.int x2, .int 0, .int 3]) (pc := 20) (ll := [some (.ref 40), some (.int x1), some (.int x2), none]) (st := []) (c1 := 0) (s1 := 0) (g := (ab_G mi1 ml2)) rfl ⟨trivial, trivial, trivial, trivial⟩ hc ?_
    refine ab_wk 1 (f' := (if r6 = 0 then 23 else 25, [some (.ref 40), some (.int x1), some (.int x2), none], [], 0, 0, (ab_G mi4 ml5))) rfl ⟨trivial, trivial⟩ ?_
    refine ab_wi (fun c => ?_) (fun c => ?_)
    · have h := h.1 c
      exact ab_wr 2 rfl ⟨trivial, trivial⟩ h
    · have h := h.2 c
      obtain ⟨mi7, ml8, hc, h⟩ := h
      refine ab_wc 3 (c := 221) (as := [.ref 40, .int x1]) (pc := 30) (ll := [some (.ref 40), some (.int x1), some (.int x2), none]) (st := []) (c1 := 0) (s1 := 0) (g := (ab_G mi4 ml5)) rfl ⟨trivial, trivial, trivial⟩ hc ?_
      obtain ⟨mi9, ml10, hc, h⟩ := h
      refine ab_wc 6 (c := 221) (as := [.ref 40, .int x2]) (pc := 40) (ll := [some (.ref 40), some (.int x1), some (.int x2), some (.int (mi7 40 58))]) (st := []) (c1 := 0) (s1 := 0) (g := (ab_G mi7 ml8)) rfl ⟨trivial, trivial, trivial, trivial, trivial, trivial⟩ hc ?_
      refine ab_wk 2 (f' := (if (mi7 40 58) < 0 then 51 else 44, [some (.ref 40), some (.int x1), some (.int x2), some (.int (mi7 40 58))], [], 0, 0, (ab_G mi9 ml10))) rfl ⟨trivial, trivial, trivial⟩ ?_
      refine ab_wi (fun c => ?_) (fun c => ?_)
      · have h := h.1 c
        exact ab_wr 3 rfl ⟨trivial, trivial, trivial⟩ h
      · have h := h.2 c
        refine ab_wk 3 (f' := (if (mi9 40 58) < 0 then 51 else 55, [some (.ref 40), some (.int x1), some (.int x2), some (.int (mi7 40 58))], [], 0, 0, (ab_G mi9 ml10))) rfl ⟨trivial, trivial, trivial, trivial⟩ ?_
        refine ab_wi (fun c => ?_) (fun c => ?_)
        · have h := h.1 c
          exact ab_wr 3 rfl ⟨trivial, trivial, trivial⟩ h
        · have h := h.2 c
          exact ab_wr 7 rfl ⟨trivial, trivial, trivial, trivial, trivial, trivial, trivial⟩ h
