theorem vc_X12_favour_0 {call : Nat → List Value → ab_S → Option Value → ab_S → Prop} {ro : ab_E} {Q : Option Value → ab_S → Prop} (x1 : Int32) (x2 : Int32) (mi : Nat → Nat → Int32) (ml : Nat → Nat → Int64)
    (h : ∃ (r3 : Int32) (mi1 : Nat → Nat → Int32) (ml2 : Nat → Nat → Int64), call 178 [.int x1, .int 0, .int 6] (ab_G (ab_ui mi 40 0 0) ml) (some (.int r3)) (ab_G mi1 ml2) ∧ (((r3 = 0) → (Q (some (.int (-1))) (ab_G mi1 ml2))) ∧ (¬ (r3 = 0) → (∃ (r6 : Int32) (mi4 : Nat → Nat → Int32) (ml5 : Nat → Nat → Int64), call 178 [.int x2, .int 0, .int 2] (ab_G mi1 ml2) (some (.int r6)) (ab_G mi4 ml5) ∧ (((r6 = 0) → (Q (some (.int (-1))) (ab_G mi4 ml5))) ∧ (¬ (r6 = 0) → (∃ (mi7 : Nat → Nat → Int32) (ml8 : Nat → Nat → Int64), call 226 [.ref 40] (ab_G mi4 ml5) none (ab_G mi7 ml8) ∧ (∃ (r11 : Int32) (mi9 : Nat → Nat → Int32) (ml10 : Nat → Nat → Int64), call 234 [.ref 40, .int x1] (ab_G (ab_ui (ab_ui (ab_ui mi7 40 66 (-1)) 40 67 (-1)) 40 68 0) ml8) (some (.int r11)) (ab_G mi9 ml10) ∧ (∃ (mi12 : Nat → Nat → Int32) (ml13 : Nat → Nat → Int64), call 233 [.ref 40, .int r11, .int 0, .int 0, .int 0] (ab_G mi9 ml10) none (ab_G mi12 ml13) ∧ (((x2 = 0) → (Q (some (.int (mi12 40 66))) (ab_G mi12 ml13))) ∧ (¬ (x2 = 0) → (((x2 = 1) → (Q (some (.int (mi12 40 67))) (ab_G mi12 ml13))) ∧ (¬ (x2 = 1) → (Q (some (.int (mi12 40 68))) (ab_G mi12 ml13))))))))))))))) :
    ab_W call ro 0 0 (ab_lk2 pl_X12_favour) Q (0, [some (.ref 40), some (.int x1), some (.int x2)], [], 0, 0, ab_G mi ml) := by
  obtain ⟨r3, mi1, ml2, hc, h⟩ := h
  refine ab_wc 7 (c := 178) (as := [.int x1, .int 0, .int 6]) (pc := 12) (ll := [some (.ref 40), some (.int x1), some (.int x2)]) (st := []) (c1 := 0) (s1 := 0) (g := (ab_G (ab_ui mi 40 0 0) ml)) rfl ⟨trivial, trivial, trivial, trivial, trivial, trivial, trivial⟩ hc ?_
  refine ab_wk 1 (f' := (if r3 = 0 then 24 else 15, [some (.ref 40), some (.int x1), some (.int x2)], [], 0, 0, (ab_G mi1 ml2))) rfl ⟨trivial, trivial⟩ ?_
  refine ab_wi (fun c => ?_) (fun c => ?_)
  · have h := h.1 c
    exact ab_wr 2 rfl ⟨trivial, trivial⟩ h
  · have h := h.2 c
    obtain ⟨r6, mi4, ml5, hc, h⟩ := h
    refine ab_wc 4 (c := 178) (as := [.int x2, .int 0, .int 2]) (pc := 21) (ll := [some (.ref 40), some (.int x1), some (.int x2)]) (st := []) (c1 := 0) (s1 := 0) (g := (ab_G mi1 ml2)) rfl ⟨trivial, trivial, trivial, trivial⟩ hc ?_
    refine ab_wk 1 (f' := (if r6 = 0 then 24 else 26, [some (.ref 40), some (.int x1), some (.int x2)], [], 0, 0, (ab_G mi4 ml5))) rfl ⟨trivial, trivial⟩ ?_
    refine ab_wi (fun c => ?_) (fun c => ?_)
    · have h := h.1 c
      exact ab_wr 2 rfl ⟨trivial, trivial⟩ h
    · have h := h.2 c
      obtain ⟨mi7, ml8, hc, h⟩ := h
      refine ab_wc 2 (c := 226) (as := [.ref 40]) (pc := 30) (ll := [some (.ref 40), some (.int x1), some (.int x2)]) (st := []) (c1 := 0) (s1 := 0) (g := (ab_G mi4 ml5)) rfl ⟨trivial, trivial⟩ hc ?_
      obtain ⟨r11, mi9, ml10, hc, h⟩ := h
      refine ab_wc 13 (c := 234) (as := [.ref 40, .int x1]) (pc := 51) (ll := [some (.ref 40), some (.int x1), some (.int x2)]) (st := [.ref 40]) (c1 := 0) (s1 := 0) (g := (ab_G (ab_ui (ab_ui (ab_ui mi7 40 66 (-1)) 40 67 (-1)) 40 68 0) ml8)) rfl ⟨trivial, trivial, trivial, trivial, trivial, trivial, trivial, trivial, trivial, trivial, trivial, trivial, trivial⟩ hc ?_
      obtain ⟨mi12, ml13, hc, h⟩ := h
      refine ab_wc 4 (c := 233) (as := [.ref 40, .int r11, .int 0, .int 0, .int 0]) (pc := 57) (ll := [some (.ref 40), some (.int x1), some (.int x2)]) (st := []) (c1 := 0) (s1 := 0) (g := (ab_G mi9 ml10)) rfl ⟨trivial, trivial, trivial, trivial⟩ hc ?_
      refine ab_wk 2 (f' := (if x2 = 0 then 61 else 68, [some (.ref 40), some (.int x1), some (.int x2)], [], 0, 0, (ab_G mi12 ml13))) rfl ⟨trivial, trivial, trivial⟩ ?_
      refine ab_wi (fun c => ?_) (fun c => ?_)
      · have h := h.1 c
        exact ab_wr 4 rfl ⟨trivial, trivial, trivial, trivial⟩ h
      · have h := h.2 c
        refine ab_wk 3 (f' := (if x2 = 1 then 73 else 80, [some (.ref 40), some (.int x1), some (.int x2)], [], 0, 0, (ab_G mi12 ml13))) rfl ⟨trivial, trivial, trivial, trivial⟩ ?_
        refine ab_wi (fun c => ?_) (fun c => ?_)
        · have h := h.1 c
          exact ab_wr 4 rfl ⟨trivial, trivial, trivial, trivial⟩ h
        · have h := h.2 c
          exact ab_wr 3 rfl ⟨trivial, trivial, trivial⟩ h
theorem vc_X12_world_0 {call : Nat → List Value → ab_S → Option Value → ab_S → Prop} {ro : ab_E} {Q : Option Value → ab_S → Prop} (x1 : Int32) (mi : Nat → Nat → Int32) (ml : Nat → Nat → Int64)
    (h : ∃ (r3 : Int32) (mi1 : Nat → Nat → Int32) (ml2 : Nat → Nat → Int64), call 178 [.int x1, .int 0, .int 127] (ab_G (ab_ui mi 40 0 0) ml) (some (.int r3)) (ab_G mi1 ml2) ∧ (((r3 = 0) → (Q (some (.int (-1))) (ab_G mi1 ml2))) ∧ (¬ (r3 = 0) → ((((mi1 40 69) = 40) → (Q (some (.int (-1))) (ab_G mi1 ml2))) ∧ (¬ ((mi1 40 69) = 40) → (vp_in (mi1 40 69) 40 ∧ (vp_in (mi1 40 69) 40 ∧ (Q (some (.int (((mi1 40 69) + 1) - 1))) (ab_G (ab_ui (ab_ui (ab_ui mi1 81 ((mi1 40 69)).toNatClampNeg x1) 82 ((mi1 40 69)).toNatClampNeg (mi1 40 34)) 40 69 ((mi1 40 69) + 1)) ml2))))))))) :
    ab_W call ro 0 0 (ab_lk2 pl_X12_world) Q (0, [some (.ref 40), some (.int x1)], [], 0, 0, ab_G mi ml) := by
  obtain ⟨r3, mi1, ml2, hc, h⟩ := h
  refine ab_wc 7 (c := 178) (as := [.int x1, .int 0, .int 127]) (pc := 12) (ll := [some (.ref 40), some (.int x1)]) (st := []) (c1 := 0) (s1 := 0) (g := (ab_G (ab_ui mi 40 0 0) ml)) rfl ⟨trivial, trivial, trivial, trivial, trivial, trivial, trivial⟩ hc ?_
  refine ab_wk 1 (f' := (if r3 = 0 then 24 else 15, [some (.ref 40), some (.int x1)], [], 0, 0, (ab_G mi1 ml2))) rfl ⟨trivial, trivial⟩ ?_
  refine ab_wi (fun c => ?_) (fun c => ?_)
  · have h := h.1 c
    exact ab_wr 2 rfl ⟨trivial, trivial⟩ h
  · have h := h.2 c
    refine ab_wk 4 (f' := (if (mi1 40 69) = 40 then 24 else 26, [some (.ref 40), some (.int x1)], [], 0, 0, (ab_G mi1 ml2))) rfl ⟨trivial, trivial, trivial, trivial, trivial⟩ ?_
    refine ab_wi (fun c => ?_) (fun c => ?_)
    · have h := h.1 c
      exact ab_wr 2 rfl ⟨trivial, trivial⟩ h
    · have h := h.2 c
      obtain ⟨p0, p1, h⟩ := h
      exact ab_wr 24 rfl ⟨trivial, trivial, trivial, trivial, trivial, p0, trivial, trivial, trivial, trivial, trivial, trivial, p1, trivial, trivial, trivial, trivial, trivial, trivial, trivial, trivial, trivial, trivial, trivial⟩ h
theorem vc_X12_cases_0 {call : Nat → List Value → ab_S → Option Value → ab_S → Prop} {ro : ab_E} {Q : Option Value → ab_S → Prop} (x1 : Int32) (x2 : Int32) (mi : Nat → Nat → Int32) (ml : Nat → Nat → Int64)
    (h : ∃ (r3 : Int32) (mi1 : Nat → Nat → Int32) (ml2 : Nat → Nat → Int64), call 178 [.int x1, .int 0, .int 3] (ab_G (ab_ui mi 40 0 0) ml) (some (.int r3)) (ab_G mi1 ml2) ∧ (((r3 = 0) → (Q (some (.int (-1))) (ab_G mi1 ml2))) ∧ (¬ (r3 = 0) → (∃ (r6 : Int32) (mi4 : Nat → Nat → Int32) (ml5 : Nat → Nat → Int64), call 178 [.int x2, .int 0, .int 1] (ab_G mi1 ml2) (some (.int r6)) (ab_G mi4 ml5) ∧ (((r6 = 0) → (Q (some (.int (-1))) (ab_G mi4 ml5))) ∧ (¬ (r6 = 0) → (∃ (mi7 : Nat → Nat → Int32) (ml8 : Nat → Nat → Int64), call 221 [.ref 40, .int x1] (ab_G mi4 ml5) none (ab_G mi7 ml8) ∧ ((((mi7 40 58) < 0) → (Q (some (.int (-1))) (ab_G mi7 ml8))) ∧ (¬ ((mi7 40 58) < 0) → (∃ (mi9 : Nat → Nat → Int32) (ml10 : Nat → Nat → Int64), call 190 [.ref 40] (ab_G mi7 ml8) none (ab_G mi9 ml10) ∧ (∃ (mi11 : Nat → Nat → Int32) (ml12 : Nat → Nat → Int64), call 210 [.ref 40, .int (mi9 40 58)] (ab_G mi9 ml10) none (ab_G mi11 ml12) ∧ (∃ (mi13 : Nat → Nat → Int32) (ml14 : Nat → Nat → Int64), call 187 [.ref 40] (ab_G mi11 ml12) none (ab_G mi13 ml14) ∧ (ab_W call ro 0 0 (ab_lk2 pl_X12_cases) Q (72, [some (.ref 40), some (.int x1), some (.int x2), some (.long (ml10 40 40)), none, some (.long (ml10 40 41)), none, some (.int 0), some (.int 0), none, none], [], 0, 0, (ab_G mi13 ml14))))))))))))))) :
    ab_W call ro 0 0 (ab_lk2 pl_X12_cases) Q (0, [some (.ref 40), some (.int x1), some (.int x2), none, none, none, none, none, none, none, none], [], 0, 0, ab_G mi ml) := by
  obtain ⟨r3, mi1, ml2, hc, h⟩ := h
  refine ab_wc 7 (c := 178) (as := [.int x1, .int 0, .int 3]) (pc := 11) (ll := [some (.ref 40), some (.int x1), some (.int x2), none, none, none, none, none, none, none, none]) (st := []) (c1 := 0) (s1 := 0) (g := (ab_G (ab_ui mi 40 0 0) ml)) rfl ⟨trivial, trivial, trivial, trivial, trivial, trivial, trivial⟩ hc ?_
  refine ab_wk 1 (f' := (if r3 = 0 then 23 else 14, [some (.ref 40), some (.int x1), some (.int x2), none, none, none, none, none, none, none, none], [], 0, 0, (ab_G mi1 ml2))) rfl ⟨trivial, trivial⟩ ?_
  refine ab_wi (fun c => ?_) (fun c => ?_)
  · have h := h.1 c
    exact ab_wr 2 rfl ⟨trivial, trivial⟩ h
  · have h := h.2 c
    obtain ⟨r6, mi4, ml5, hc, h⟩ := h
    refine ab_wc 4 (c := 178) (as := [.int x2, .int 0, .int 1]) (pc := 20) (ll := [some (.ref 40), some (.int x1), some (.int x2), none, none, none, none, none, none, none, none]) (st := []) (c1 := 0) (s1 := 0) (g := (ab_G mi1 ml2)) rfl ⟨trivial, trivial, trivial, trivial⟩ hc ?_
    refine ab_wk 1 (f' := (if r6 = 0 then 23 else 25, [some (.ref 40), some (.int x1), some (.int x2), none, none, none, none, none, none, none, none], [], 0, 0, (ab_G mi4 ml5))) rfl ⟨trivial, trivial⟩ ?_
    refine ab_wi (fun c => ?_) (fun c => ?_)
    · have h := h.1 c
      exact ab_wr 2 rfl ⟨trivial, trivial⟩ h
    · have h := h.2 c
      obtain ⟨mi7, ml8, hc, h⟩ := h
      refine ab_wc 3 (c := 221) (as := [.ref 40, .int x1]) (pc := 30) (ll := [some (.ref 40), some (.int x1), some (.int x2), none, none, none, none, none, none, none, none]) (st := []) (c1 := 0) (s1 := 0) (g := (ab_G mi4 ml5)) rfl ⟨trivial, trivial, trivial⟩ hc ?_
      refine ab_wk 3 (f' := (if (mi7 40 58) < 0 then 37 else 39, [some (.ref 40), some (.int x1), some (.int x2), none, none, none, none, none, none, none, none], [], 0, 0, (ab_G mi7 ml8))) rfl ⟨trivial, trivial, trivial, trivial⟩ ?_
      refine ab_wi (fun c => ?_) (fun c => ?_)
      · have h := h.1 c
        exact ab_wr 2 rfl ⟨trivial, trivial⟩ h
      · have h := h.2 c
        obtain ⟨mi9, ml10, hc, h⟩ := h
        refine ab_wc 2 (c := 190) (as := [.ref 40]) (pc := 43) (ll := [some (.ref 40), some (.int x1), some (.int x2), none, none, none, none, none, none, none, none]) (st := []) (c1 := 0) (s1 := 0) (g := (ab_G mi7 ml8)) rfl ⟨trivial, trivial⟩ hc ?_
        obtain ⟨mi11, ml12, hc, h⟩ := h
        refine ab_wc 10 (c := 210) (as := [.ref 40, .int (mi9 40 58)]) (pc := 62) (ll := [some (.ref 40), some (.int x1), some (.int x2), some (.long (ml10 40 40)), none, some (.long (ml10 40 41)), none, none, none, none, none]) (st := []) (c1 := 0) (s1 := 0) (g := (ab_G mi9 ml10)) rfl ⟨trivial, trivial, trivial, trivial, trivial, trivial, trivial, trivial, trivial, trivial⟩ hc ?_
        obtain ⟨mi13, ml14, hc, h⟩ := h
        refine ab_wc 2 (c := 187) (as := [.ref 40]) (pc := 66) (ll := [some (.ref 40), some (.int x1), some (.int x2), some (.long (ml10 40 40)), none, some (.long (ml10 40 41)), none, none, none, none, none]) (st := []) (c1 := 0) (s1 := 0) (g := (ab_G mi11 ml12)) rfl ⟨trivial, trivial⟩ hc ?_
        exact ab_wk 4 (f' := (72, [some (.ref 40), some (.int x1), some (.int x2), some (.long (ml10 40 40)), none, some (.long (ml10 40 41)), none, some (.int 0), some (.int 0), none, none], [], 0, 0, (ab_G mi13 ml14))) rfl ⟨trivial, trivial, trivial, trivial, trivial⟩ h
theorem vc_X12_cases_72 {call : Nat → List Value → ab_S → Option Value → ab_S → Prop} {ro : ab_E} {Q : Option Value → ab_S → Prop} (y1 : Int32) (y2 : Int32) (y3 : Int64) (y5 : Int64) (y7 : Int32) (y8 : Int32) (mi : Nat → Nat → Int32) (ml : Nat → Nat → Int64)
    (h : ((y8 < (mi 40 69)) → (vp_in y8 40 ∧ (∃ (r17 : Int32) (mi15 : Nat → Nat → Int32) (ml16 : Nat → Nat → Int64), call 160 [.long y3, .long y5, .int (mi 81 (y8).toNatClampNeg)] (ab_G mi ml) (some (.int r17)) (ab_G mi15 ml16) ∧ (vp_in y8 40 ∧ (∃ (r20 : Int32) (mi18 : Nat → Nat → Int32) (ml19 : Nat → Nat → Int64), call 160 [.long (ml16 40 40), .long (ml16 40 41), .int (mi15 81 (y8).toNatClampNeg)] (ab_G mi15 ml16) (some (.int r20)) (ab_G mi18 ml19) ∧ (vp_in y8 40 ∧ (∃ (r23 : Int32) (mi21 : Nat → Nat → Int32) (ml22 : Nat → Nat → Int64), call 181 [.ref 40] (ab_G mi18 ml19) (some (.int r23)) (ab_G mi21 ml22) ∧ (((r23 < (mi18 82 (y8).toNatClampNeg)) → (ab_W call ro 0 0 (ab_lk2 pl_X12_cases) Q (72, [some (.ref 40), some (.int y1), some (.int y2), some (.long y3), none, some (.long y5), none, some (.int (y7 + 0)), some (.int (y8 + 1)), some (.int r17), some (.int r20)], [], 0, 0, (ab_G mi21 ml22)))) ∧ (¬ (r23 < (mi18 82 (y8).toNatClampNeg)) → (((r17 = r20) → (ab_W call ro 0 0 (ab_lk2 pl_X12_cases) Q (72, [some (.ref 40), some (.int y1), some (.int y2), some (.long y3), none, some (.long y5), none, some (.int (y7 + 0)), some (.int (y8 + 1)), some (.int r17), some (.int r20)], [], 0, 0, (ab_G mi21 ml22)))) ∧ (¬ (r17 = r20) → (((y2 = 0) → (((r17 = 1) → (ab_W call ro 0 0 (ab_lk2 pl_X12_cases) Q (72, [some (.ref 40), some (.int y1), some (.int y2), some (.long y3), none, some (.long y5), none, some (.int (y7 + 1)), some (.int (y8 + 1)), some (.int r17), some (.int r20)], [], 0, 0, (ab_G mi21 ml22)))) ∧ (¬ (r17 = 1) → (ab_W call ro 0 0 (ab_lk2 pl_X12_cases) Q (72, [some (.ref 40), some (.int y1), some (.int y2), some (.long y3), none, some (.long y5), none, some (.int (y7 + 0)), some (.int (y8 + 1)), some (.int r17), some (.int r20)], [], 0, 0, (ab_G mi21 ml22)))))) ∧ (¬ (y2 = 0) → (((r17 = 0) → (ab_W call ro 0 0 (ab_lk2 pl_X12_cases) Q (72, [some (.ref 40), some (.int y1), some (.int y2), some (.long y3), none, some (.long y5), none, some (.int (y7 + 1)), some (.int (y8 + 1)), some (.int r17), some (.int r20)], [], 0, 0, (ab_G mi21 ml22)))) ∧ (¬ (r17 = 0) → (ab_W call ro 0 0 (ab_lk2 pl_X12_cases) Q (72, [some (.ref 40), some (.int y1), some (.int y2), some (.long y3), none, some (.long y5), none, some (.int (y7 + 0)), some (.int (y8 + 1)), some (.int r17), some (.int r20)], [], 0, 0, (ab_G mi21 ml22)))))))))))))))))) ∧ (¬ (y8 < (mi 40 69)) → (Q (some (.int y7)) (ab_G mi ml)))) :
    ab_W call ro 0 0 (ab_lk2 pl_X12_cases) Q (72, [some (.ref 40), some (.int y1), some (.int y2), some (.long y3), none, some (.long y5), none, some (.int y7), some (.int y8), none, none], [], 0, 0, ab_G mi ml) := by
  refine ab_wk 4 (f' := (if y8 < (mi 40 69) then 81 else 167, [some (.ref 40), some (.int y1), some (.int y2), some (.long y3), none, some (.long y5), none, some (.int y7), some (.int y8), none, none], [], 0, 0, (ab_G mi ml))) rfl ⟨trivial, trivial, trivial, trivial, trivial⟩ ?_
  refine ab_wi (fun c => ?_) (fun c => ?_)
  · have h := h.1 c
    obtain ⟨p0, h⟩ := h
    obtain ⟨r17, mi15, ml16, hc, h⟩ := h
    refine ab_wc 7 (c := 160) (as := [.long y3, .long y5, .int (mi 81 (y8).toNatClampNeg)]) (pc := 94) (ll := [some (.ref 40), some (.int y1), some (.int y2), some (.long y3), none, some (.long y5), none, some (.int y7), some (.int y8), none, none]) (st := []) (c1 := 0) (s1 := 0) (g := (ab_G mi ml)) rfl ⟨trivial, trivial, trivial, trivial, trivial, p0, trivial⟩ hc ?_
    obtain ⟨p0, h⟩ := h
    obtain ⟨r20, mi18, ml19, hc, h⟩ := h
    refine ab_wc 10 (c := 160) (as := [.long (ml16 40 40), .long (ml16 40 41), .int (mi15 81 (y8).toNatClampNeg)]) (pc := 114) (ll := [some (.ref 40), some (.int y1), some (.int y2), some (.long y3), none, some (.long y5), none, some (.int y7), some (.int y8), some (.int r17), none]) (st := []) (c1 := 0) (s1 := 0) (g := (ab_G mi15 ml16)) rfl ⟨trivial, trivial, trivial, trivial, trivial, trivial, trivial, trivial, p0, trivial⟩ hc ?_
    obtain ⟨p0, h⟩ := h
    obtain ⟨r23, mi21, ml22, hc, h⟩ := h
    refine ab_wc 8 (c := 181) (as := [.ref 40]) (pc := 129) (ll := [some (.ref 40), some (.int y1), some (.int y2), some (.long y3), none, some (.long y5), none, some (.int y7), some (.int y8), some (.int r17), some (.int r20)]) (st := [.int (mi18 82 (y8).toNatClampNeg), .int y7]) (c1 := 0) (s1 := 0) (g := (ab_G mi18 ml19)) rfl ⟨trivial, trivial, trivial, trivial, trivial, p0, trivial, trivial⟩ hc ?_
    refine ab_wk 1 (f' := (if r23 < (mi18 82 (y8).toNatClampNeg) then 157 else 132, [some (.ref 40), some (.int y1), some (.int y2), some (.long y3), none, some (.long y5), none, some (.int y7), some (.int y8), some (.int r17), some (.int r20)], [.int y7], 0, 0, (ab_G mi21 ml22))) rfl ⟨trivial, trivial⟩ ?_
    refine ab_wi (fun c => ?_) (fun c => ?_)
    · have h := h.1 c
      exact ab_wk 5 (f' := (72, [some (.ref 40), some (.int y1), some (.int y2), some (.long y3), none, some (.long y5), none, some (.int (y7 + 0)), some (.int (y8 + 1)), some (.int r17), some (.int r20)], [], 0, 0, (ab_G mi21 ml22))) rfl ⟨trivial, trivial, trivial, trivial, trivial, trivial⟩ h
    · have h := h.2 c
      refine ab_wk 3 (f' := (if r17 = r20 then 157 else 139, [some (.ref 40), some (.int y1), some (.int y2), some (.long y3), none, some (.long y5), none, some (.int y7), some (.int y8), some (.int r17), some (.int r20)], [.int y7], 0, 0, (ab_G mi21 ml22))) rfl ⟨trivial, trivial, trivial, trivial⟩ ?_
      refine ab_wi (fun c => ?_) (fun c => ?_)
      · have h := h.1 c
        exact ab_wk 5 (f' := (72, [some (.ref 40), some (.int y1), some (.int y2), some (.long y3), none, some (.long y5), none, some (.int (y7 + 0)), some (.int (y8 + 1)), some (.int r17), some (.int r20)], [], 0, 0, (ab_G mi21 ml22))) rfl ⟨trivial, trivial, trivial, trivial, trivial, trivial⟩ h
      · have h := h.2 c
        refine ab_wk 3 (f' := (if y2 = 0 then 145 else 149, [some (.ref 40), some (.int y1), some (.int y2), some (.long y3), none, some (.long y5), none, some (.int y7), some (.int y8), some (.int r17), some (.int r20)], [.int r17, .int y7], 0, 0, (ab_G mi21 ml22))) rfl ⟨trivial, trivial, trivial, trivial⟩ ?_
        refine ab_wi (fun c => ?_) (fun c => ?_)
        · have h := h.1 c
          refine ab_wk 3 (f' := (if r17 = 1 then 153 else 157, [some (.ref 40), some (.int y1), some (.int y2), some (.long y3), none, some (.long y5), none, some (.int y7), some (.int y8), some (.int r17), some (.int r20)], [.int y7], 0, 0, (ab_G mi21 ml22))) rfl ⟨trivial, trivial, trivial, trivial⟩ ?_
          refine ab_wi (fun c => ?_) (fun c => ?_)
          · have h := h.1 c
            exact ab_wk 6 (f' := (72, [some (.ref 40), some (.int y1), some (.int y2), some (.long y3), none, some (.long y5), none, some (.int (y7 + 1)), some (.int (y8 + 1)), some (.int r17), some (.int r20)], [], 0, 0, (ab_G mi21 ml22))) rfl ⟨trivial, trivial, trivial, trivial, trivial, trivial, trivial⟩ h
          · have h := h.2 c
            exact ab_wk 5 (f' := (72, [some (.ref 40), some (.int y1), some (.int y2), some (.long y3), none, some (.long y5), none, some (.int (y7 + 0)), some (.int (y8 + 1)), some (.int r17), some (.int r20)], [], 0, 0, (ab_G mi21 ml22))) rfl ⟨trivial, trivial, trivial, trivial, trivial, trivial⟩ h
        · have h := h.2 c
          refine ab_wk 2 (f' := (if r17 = 0 then 153 else 157, [some (.ref 40), some (.int y1), some (.int y2), some (.long y3), none, some (.long y5), none, some (.int y7), some (.int y8), some (.int r17), some (.int r20)], [.int y7], 0, 0, (ab_G mi21 ml22))) rfl ⟨trivial, trivial, trivial⟩ ?_
          refine ab_wi (fun c => ?_) (fun c => ?_)
          · have h := h.1 c
            exact ab_wk 6 (f' := (72, [some (.ref 40), some (.int y1), some (.int y2), some (.long y3), none, some (.long y5), none, some (.int (y7 + 1)), some (.int (y8 + 1)), some (.int r17), some (.int r20)], [], 0, 0, (ab_G mi21 ml22))) rfl ⟨trivial, trivial, trivial, trivial, trivial, trivial, trivial⟩ h
          · have h := h.2 c
            exact ab_wk 5 (f' := (72, [some (.ref 40), some (.int y1), some (.int y2), some (.long y3), none, some (.long y5), none, some (.int (y7 + 0)), some (.int (y8 + 1)), some (.int r17), some (.int r20)], [], 0, 0, (ab_G mi21 ml22))) rfl ⟨trivial, trivial, trivial, trivial, trivial, trivial⟩ h
  · have h := h.2 c
    exact ab_wr 2 rfl ⟨trivial, trivial⟩ h
theorem vc_X12_cases_72_2 {call : Nat → List Value → ab_S → Option Value → ab_S → Prop} {ro : ab_E} {Q : Option Value → ab_S → Prop} (y1 : Int32) (y2 : Int32) (y3 : Int64) (y5 : Int64) (y7 : Int32) (y8 : Int32) (y9 : Int32) (y10 : Int32) (mi : Nat → Nat → Int32) (ml : Nat → Nat → Int64)
    (h : ((y8 < (mi 40 69)) → (vp_in y8 40 ∧ (∃ (r26 : Int32) (mi24 : Nat → Nat → Int32) (ml25 : Nat → Nat → Int64), call 160 [.long y3, .long y5, .int (mi 81 (y8).toNatClampNeg)] (ab_G mi ml) (some (.int r26)) (ab_G mi24 ml25) ∧ (vp_in y8 40 ∧ (∃ (r29 : Int32) (mi27 : Nat → Nat → Int32) (ml28 : Nat → Nat → Int64), call 160 [.long (ml25 40 40), .long (ml25 40 41), .int (mi24 81 (y8).toNatClampNeg)] (ab_G mi24 ml25) (some (.int r29)) (ab_G mi27 ml28) ∧ (vp_in y8 40 ∧ (∃ (r32 : Int32) (mi30 : Nat → Nat → Int32) (ml31 : Nat → Nat → Int64), call 181 [.ref 40] (ab_G mi27 ml28) (some (.int r32)) (ab_G mi30 ml31) ∧ (((r32 < (mi27 82 (y8).toNatClampNeg)) → (ab_W call ro 0 0 (ab_lk2 pl_X12_cases) Q (72, [some (.ref 40), some (.int y1), some (.int y2), some (.long y3), none, some (.long y5), none, some (.int (y7 + 0)), some (.int (y8 + 1)), some (.int r26), some (.int r29)], [], 0, 0, (ab_G mi30 ml31)))) ∧ (¬ (r32 < (mi27 82 (y8).toNatClampNeg)) → (((r26 = r29) → (ab_W call ro 0 0 (ab_lk2 pl_X12_cases) Q (72, [some (.ref 40), some (.int y1), some (.int y2), some (.long y3), none, some (.long y5), none, some (.int (y7 + 0)), some (.int (y8 + 1)), some (.int r26), some (.int r29)], [], 0, 0, (ab_G mi30 ml31)))) ∧ (¬ (r26 = r29) → (((y2 = 0) → (((r26 = 1) → (ab_W call ro 0 0 (ab_lk2 pl_X12_cases) Q (72, [some (.ref 40), some (.int y1), some (.int y2), some (.long y3), none, some (.long y5), none, some (.int (y7 + 1)), some (.int (y8 + 1)), some (.int r26), some (.int r29)], [], 0, 0, (ab_G mi30 ml31)))) ∧ (¬ (r26 = 1) → (ab_W call ro 0 0 (ab_lk2 pl_X12_cases) Q (72, [some (.ref 40), some (.int y1), some (.int y2), some (.long y3), none, some (.long y5), none, some (.int (y7 + 0)), some (.int (y8 + 1)), some (.int r26), some (.int r29)], [], 0, 0, (ab_G mi30 ml31)))))) ∧ (¬ (y2 = 0) → (((r26 = 0) → (ab_W call ro 0 0 (ab_lk2 pl_X12_cases) Q (72, [some (.ref 40), some (.int y1), some (.int y2), some (.long y3), none, some (.long y5), none, some (.int (y7 + 1)), some (.int (y8 + 1)), some (.int r26), some (.int r29)], [], 0, 0, (ab_G mi30 ml31)))) ∧ (¬ (r26 = 0) → (ab_W call ro 0 0 (ab_lk2 pl_X12_cases) Q (72, [some (.ref 40), some (.int y1), some (.int y2), some (.long y3), none, some (.long y5), none, some (.int (y7 + 0)), some (.int (y8 + 1)), some (.int r26), some (.int r29)], [], 0, 0, (ab_G mi30 ml31)))))))))))))))))) ∧ (¬ (y8 < (mi 40 69)) → (Q (some (.int y7)) (ab_G mi ml)))) :
    ab_W call ro 0 0 (ab_lk2 pl_X12_cases) Q (72, [some (.ref 40), some (.int y1), some (.int y2), some (.long y3), none, some (.long y5), none, some (.int y7), some (.int y8), some (.int y9), some (.int y10)], [], 0, 0, ab_G mi ml) := by
  refine ab_wk 4 (f' := (if y8 < (mi 40 69) then 81 else 167, [some (.ref 40), some (.int y1), some (.int y2), some (.long y3), none, some (.long y5), none, some (.int y7), some (.int y8), some (.int y9), some (.int y10)], [], 0, 0, (ab_G mi ml))) rfl ⟨trivial, trivial, trivial, trivial, trivial⟩ ?_
  refine ab_wi (fun c => ?_) (fun c => ?_)
  · have h := h.1 c
    obtain ⟨p0, h⟩ := h
    obtain ⟨r26, mi24, ml25, hc, h⟩ := h
    refine ab_wc 7 (c := 160) (as := [.long y3, .long y5, .int (mi 81 (y8).toNatClampNeg)]) (pc := 94) (ll := [some (.ref 40), some (.int y1), some (.int y2), some (.long y3), none, some (.long y5), none, some (.int y7), some (.int y8), some (.int y9), some (.int y10)]) (st := []) (c1 := 0) (s1 := 0) (g := (ab_G mi ml)) rfl ⟨trivial, trivial, trivial, trivial, trivial, p0, trivial⟩ hc ?_
    obtain ⟨p0, h⟩ := h
    obtain ⟨r29, mi27, ml28, hc, h⟩ := h
    refine ab_wc 10 (c := 160) (as := [.long (ml25 40 40), .long (ml25 40 41), .int (mi24 81 (y8).toNatClampNeg)]) (pc := 114) (ll := [some (.ref 40), some (.int y1), some (.int y2), some (.long y3), none, some (.long y5), none, some (.int y7), some (.int y8), some (.int r26), some (.int y10)]) (st := []) (c1 := 0) (s1 := 0) (g := (ab_G mi24 ml25)) rfl ⟨trivial, trivial, trivial, trivial, trivial, trivial, trivial, trivial, p0, trivial⟩ hc ?_
    obtain ⟨p0, h⟩ := h
    obtain ⟨r32, mi30, ml31, hc, h⟩ := h
    refine ab_wc 8 (c := 181) (as := [.ref 40]) (pc := 129) (ll := [some (.ref 40), some (.int y1), some (.int y2), some (.long y3), none, some (.long y5), none, some (.int y7), some (.int y8), some (.int r26), some (.int r29)]) (st := [.int (mi27 82 (y8).toNatClampNeg), .int y7]) (c1 := 0) (s1 := 0) (g := (ab_G mi27 ml28)) rfl ⟨trivial, trivial, trivial, trivial, trivial, p0, trivial, trivial⟩ hc ?_
    refine ab_wk 1 (f' := (if r32 < (mi27 82 (y8).toNatClampNeg) then 157 else 132, [some (.ref 40), some (.int y1), some (.int y2), some (.long y3), none, some (.long y5), none, some (.int y7), some (.int y8), some (.int r26), some (.int r29)], [.int y7], 0, 0, (ab_G mi30 ml31))) rfl ⟨trivial, trivial⟩ ?_
    refine ab_wi (fun c => ?_) (fun c => ?_)
    · have h := h.1 c
      exact ab_wk 5 (f' := (72, [some (.ref 40), some (.int y1), some (.int y2), some (.long y3), none, some (.long y5), none, some (.int (y7 + 0)), some (.int (y8 + 1)), some (.int r26), some (.int r29)], [], 0, 0, (ab_G mi30 ml31))) rfl ⟨trivial, trivial, trivial, trivial, trivial, trivial⟩ h
    · have h := h.2 c
      refine ab_wk 3 (f' := (if r26 = r29 then 157 else 139, [some (.ref 40), some (.int y1), some (.int y2), some (.long y3), none, some (.long y5), none, some (.int y7), some (.int y8), some (.int r26), some (.int r29)], [.int y7], 0, 0, (ab_G mi30 ml31))) rfl ⟨trivial, trivial, trivial, trivial⟩ ?_
      refine ab_wi (fun c => ?_) (fun c => ?_)
      · have h := h.1 c
        exact ab_wk 5 (f' := (72, [some (.ref 40), some (.int y1), some (.int y2), some (.long y3), none, some (.long y5), none, some (.int (y7 + 0)), some (.int (y8 + 1)), some (.int r26), some (.int r29)], [], 0, 0, (ab_G mi30 ml31))) rfl ⟨trivial, trivial, trivial, trivial, trivial, trivial⟩ h
      · have h := h.2 c
        refine ab_wk 3 (f' := (if y2 = 0 then 145 else 149, [some (.ref 40), some (.int y1), some (.int y2), some (.long y3), none, some (.long y5), none, some (.int y7), some (.int y8), some (.int r26), some (.int r29)], [.int r26, .int y7], 0, 0, (ab_G mi30 ml31))) rfl ⟨trivial, trivial, trivial, trivial⟩ ?_
        refine ab_wi (fun c => ?_) (fun c => ?_)
        · have h := h.1 c
          refine ab_wk 3 (f' := (if r26 = 1 then 153 else 157, [some (.ref 40), some (.int y1), some (.int y2), some (.long y3), none, some (.long y5), none, some (.int y7), some (.int y8), some (.int r26), some (.int r29)], [.int y7], 0, 0, (ab_G mi30 ml31))) rfl ⟨trivial, trivial, trivial, trivial⟩ ?_
          refine ab_wi (fun c => ?_) (fun c => ?_)
          · have h := h.1 c
            exact ab_wk 6 (f' := (72, [some (.ref 40), some (.int y1), some (.int y2), some (.long y3), none, some (.long y5), none, some (.int (y7 + 1)), some (.int (y8 + 1)), some (.int r26), some (.int r29)], [], 0, 0, (ab_G mi30 ml31))) rfl ⟨trivial, trivial, trivial, trivial, trivial, trivial, trivial⟩ h
          · have h := h.2 c
            exact ab_wk 5 (f' := (72, [some (.ref 40), some (.int y1), some (.int y2), some (.long y3), none, some (.long y5), none, some (.int (y7 + 0)), some (.int (y8 + 1)), some (.int r26), some (.int r29)], [], 0, 0, (ab_G mi30 ml31))) rfl ⟨trivial, trivial, trivial, trivial, trivial, trivial⟩ h
        · have h := h.2 c
          refine ab_wk 2 (f' := (if r26 = 0 then 153 else 157, [some (.ref 40), some (.int y1), some (.int y2), some (.long y3), none, some (.long y5), none, some (.int y7), some (.int y8), some (.int r26), some (.int r29)], [.int y7], 0, 0, (ab_G mi30 ml31))) rfl ⟨trivial, trivial, trivial⟩ ?_
          refine ab_wi (fun c => ?_) (fun c => ?_)
          · have h := h.1 c
            exact ab_wk 6 (f' := (72, [some (.ref 40), some (.int y1), some (.int y2), some (.long y3), none, some (.long y5), none, some (.int (y7 + 1)), some (.int (y8 + 1)), some (.int r26), some (.int r29)], [], 0, 0, (ab_G mi30 ml31))) rfl ⟨trivial, trivial, trivial, trivial, trivial, trivial, trivial⟩ h
          · have h := h.2 c
            exact ab_wk 5 (f' := (72, [some (.ref 40), some (.int y1), some (.int y2), some (.long y3), none, some (.long y5), none, some (.int (y7 + 0)), some (.int (y8 + 1)), some (.int r26), some (.int r29)], [], 0, 0, (ab_G mi30 ml31))) rfl ⟨trivial, trivial, trivial, trivial, trivial, trivial⟩ h
  · have h := h.2 c
    exact ab_wr 2 rfl ⟨trivial, trivial⟩ h
theorem vc_X12_casesSeen_0 {call : Nat → List Value → ab_S → Option Value → ab_S → Prop} {ro : ab_E} {Q : Option Value → ab_S → Prop}  (mi : Nat → Nat → Int32) (ml : Nat → Nat → Int64)
    (h : ab_W call ro 0 0 (ab_lk2 pl_X12_casesSeen) Q (4, [some (.ref 40), some (.int 0), some (.int 0)], [], 0, 0, (ab_G mi ml))) :
    ab_W call ro 0 0 (ab_lk2 pl_X12_casesSeen) Q (0, [some (.ref 40), none, none], [], 0, 0, ab_G mi ml) := by
  exact ab_wk 4 (f' := (4, [some (.ref 40), some (.int 0), some (.int 0)], [], 0, 0, (ab_G mi ml))) rfl ⟨trivial, trivial, trivial, trivial, trivial⟩ h
theorem vc_X12_casesSeen_4 {call : Nat → List Value → ab_S → Option Value → ab_S → Prop} {ro : ab_E} {Q : Option Value → ab_S → Prop} (y1 : Int32) (y2 : Int32) (mi : Nat → Nat → Int32) (ml : Nat → Nat → Int64)
    (h : ((y2 < (mi 40 69)) → (vp_in y2 40 ∧ (∃ (r3 : Int32) (mi1 : Nat → Nat → Int32) (ml2 : Nat → Nat → Int64), call 181 [.ref 40] (ab_G mi ml) (some (.int r3)) (ab_G mi1 ml2) ∧ (((r3 < (mi 82 (y2).toNatClampNeg)) → (ab_W call ro 0 0 (ab_lk2 pl_X12_casesSeen) Q (4, [some (.ref 40), some (.int (y1 + 0)), some (.int (y2 + 1))], [], 0, 0, (ab_G mi1 ml2)))) ∧ (¬ (r3 < (mi 82 (y2).toNatClampNeg)) → (ab_W call ro 0 0 (ab_lk2 pl_X12_casesSeen) Q (4, [some (.ref 40), some (.int (y1 + 1)), some (.int (y2 + 1))], [], 0, 0, (ab_G mi1 ml2)))))))) ∧ (¬ (y2 < (mi 40 69)) → (Q (some (.int y1)) (ab_G mi ml)))) :
    ab_W call ro 0 0 (ab_lk2 pl_X12_casesSeen) Q (4, [some (.ref 40), some (.int y1), some (.int y2)], [], 0, 0, ab_G mi ml) := by
  refine ab_wk 4 (f' := (if y2 < (mi 40 69) then 12 else 39, [some (.ref 40), some (.int y1), some (.int y2)], [], 0, 0, (ab_G mi ml))) rfl ⟨trivial, trivial, trivial, trivial, trivial⟩ ?_
  refine ab_wi (fun c => ?_) (fun c => ?_)
  · have h := h.1 c
    obtain ⟨p0, h⟩ := h
    obtain ⟨r3, mi1, ml2, hc, h⟩ := h
    refine ab_wc 7 (c := 181) (as := [.ref 40]) (pc := 23) (ll := [some (.ref 40), some (.int y1), some (.int y2)]) (st := [.int (mi 82 (y2).toNatClampNeg), .int y1]) (c1 := 0) (s1 := 0) (g := (ab_G mi ml)) rfl ⟨trivial, trivial, trivial, trivial, p0, trivial, trivial⟩ hc ?_
    refine ab_wk 1 (f' := (if r3 < (mi 82 (y2).toNatClampNeg) then 30 else 26, [some (.ref 40), some (.int y1), some (.int y2)], [.int y1], 0, 0, (ab_G mi1 ml2))) rfl ⟨trivial, trivial⟩ ?_
    refine ab_wi (fun c => ?_) (fun c => ?_)
    · have h := h.1 c
      exact ab_wk 5 (f' := (4, [some (.ref 40), some (.int (y1 + 0)), some (.int (y2 + 1))], [], 0, 0, (ab_G mi1 ml2))) rfl ⟨trivial, trivial, trivial, trivial, trivial, trivial⟩ h
    · have h := h.2 c
      exact ab_wk 6 (f' := (4, [some (.ref 40), some (.int (y1 + 1)), some (.int (y2 + 1))], [], 0, 0, (ab_G mi1 ml2))) rfl ⟨trivial, trivial, trivial, trivial, trivial, trivial, trivial⟩ h
  · have h := h.2 c
    exact ab_wr 2 rfl ⟨trivial, trivial⟩ h
theorem vc_X12_blamed_0 {call : Nat → List Value → ab_S → Option Value → ab_S → Prop} {ro : ab_E} {Q : Option Value → ab_S → Prop} (x1 : Int32) (x2 : Int32) (mi : Nat → Nat → Int32) (ml : Nat → Nat → Int64)
    (h : ((x1 < 0) → (Q (some (.int (-1))) (ab_G (ab_ui mi 40 0 0) ml))) ∧ (¬ (x1 < 0) → (((x1 < (mi 40 69)) → (vp_in x1 40 ∧ (∃ (r3 : Int32) (mi1 : Nat → Nat → Int32) (ml2 : Nat → Nat → Int64), call 181 [.ref 40] (ab_G (ab_ui mi 40 0 0) ml) (some (.int r3)) (ab_G mi1 ml2) ∧ (((r3 < (mi 82 (x1).toNatClampNeg)) → (Q (some (.int (-1))) (ab_G mi1 ml2))) ∧ (¬ (r3 < (mi 82 (x1).toNatClampNeg)) → (∃ (r6 : Int32) (mi4 : Nat → Nat → Int32) (ml5 : Nat → Nat → Int64), call 178 [.int x2, .int 0, .int 3] (ab_G mi1 ml2) (some (.int r6)) (ab_G mi4 ml5) ∧ (((r6 = 0) → (Q (some (.int (-1))) (ab_G mi4 ml5))) ∧ (¬ (r6 = 0) → (∃ (mi7 : Nat → Nat → Int32) (ml8 : Nat → Nat → Int64), call 221 [.ref 40, .int x2] (ab_G mi4 ml5) none (ab_G mi7 ml8) ∧ ((((mi7 40 58) < 0) → (Q (some (.int (-1))) (ab_G mi7 ml8))) ∧ (¬ ((mi7 40 58) < 0) → (∃ (mi9 : Nat → Nat → Int32) (ml10 : Nat → Nat → Int64), call 190 [.ref 40] (ab_G mi7 ml8) none (ab_G mi9 ml10) ∧ (vp_in x1 40 ∧ (∃ (r13 : Int32) (mi11 : Nat → Nat → Int32) (ml12 : Nat → Nat → Int64), call 160 [.long (ml10 40 40), .long (ml10 40 41), .int (mi9 81 (x1).toNatClampNeg)] (ab_G mi9 ml10) (some (.int r13)) (ab_G mi11 ml12) ∧ (∃ (mi14 : Nat → Nat → Int32) (ml15 : Nat → Nat → Int64), call 210 [.ref 40, .int (mi11 40 58)] (ab_G mi11 ml12) none (ab_G mi14 ml15) ∧ (∃ (mi16 : Nat → Nat → Int32) (ml17 : Nat → Nat → Int64), call 187 [.ref 40] (ab_G mi14 ml15) none (ab_G mi16 ml17) ∧ (vp_in x1 40 ∧ (∃ (r20 : Int32) (mi18 : Nat → Nat → Int32) (ml19 : Nat → Nat → Int64), call 160 [.long (ml17 40 40), .long (ml17 40 41), .int (mi16 81 (x1).toNatClampNeg)] (ab_G mi16 ml17) (some (.int r20)) (ab_G mi18 ml19) ∧ (((r20 = r13) → (Q (some (.int (-1))) (ab_G mi18 ml19))) ∧ (¬ (r20 = r13) → (ab_W call ro 0 0 (ab_lk2 pl_X12_blamed) Q (115, [some (.ref 40), some (.int x1), some (.int x2), some (.int r13), some (.int 0)], [], 0, 0, (ab_G mi18 ml19))))))))))))))))))))))) ∧ (¬ (x1 < (mi 40 69)) → (Q (some (.int (-1))) (ab_G (ab_ui mi 40 0 0) ml)))))) :
    ab_W call ro 0 0 (ab_lk2 pl_X12_blamed) Q (0, [some (.ref 40), some (.int x1), some (.int x2), none, none], [], 0, 0, ab_G mi ml) := by
  refine ab_wk 5 (f' := (if x1 < 0 then 39 else 9, [some (.ref 40), some (.int x1), some (.int x2), none, none], [], 0, 0, (ab_G (ab_ui mi 40 0 0) ml))) rfl ⟨trivial, trivial, trivial, trivial, trivial, trivial⟩ ?_
  refine ab_wi (fun c => ?_) (fun c => ?_)
  · have h := h.1 c
    exact ab_wr 2 rfl ⟨trivial, trivial⟩ h
  · have h := h.2 c
    refine ab_wk 4 (f' := (if x1 < (mi 40 69) then 17 else 39, [some (.ref 40), some (.int x1), some (.int x2), none, none], [], 0, 0, (ab_G (ab_ui mi 40 0 0) ml))) rfl ⟨trivial, trivial, trivial, trivial, trivial⟩ ?_
    refine ab_wi (fun c => ?_) (fun c => ?_)
    · have h := h.1 c
      obtain ⟨p0, h⟩ := h
      obtain ⟨r3, mi1, ml2, hc, h⟩ := h
      refine ab_wc 6 (c := 181) (as := [.ref 40]) (pc := 27) (ll := [some (.ref 40), some (.int x1), some (.int x2), none, none]) (st := [.int (mi 82 (x1).toNatClampNeg)]) (c1 := 0) (s1 := 0) (g := (ab_G (ab_ui mi 40 0 0) ml)) rfl ⟨trivial, trivial, trivial, p0, trivial, trivial⟩ hc ?_
      refine ab_wk 1 (f' := (if r3 < (mi 82 (x1).toNatClampNeg) then 39 else 30, [some (.ref 40), some (.int x1), some (.int x2), none, none], [], 0, 0, (ab_G mi1 ml2))) rfl ⟨trivial, trivial⟩ ?_
      refine ab_wi (fun c => ?_) (fun c => ?_)
      · have h := h.1 c
        exact ab_wr 2 rfl ⟨trivial, trivial⟩ h
      · have h := h.2 c
        obtain ⟨r6, mi4, ml5, hc, h⟩ := h
        refine ab_wc 4 (c := 178) (as := [.int x2, .int 0, .int 3]) (pc := 36) (ll := [some (.ref 40), some (.int x1), some (.int x2), none, none]) (st := []) (c1 := 0) (s1 := 0) (g := (ab_G mi1 ml2)) rfl ⟨trivial, trivial, trivial, trivial⟩ hc ?_
        refine ab_wk 1 (f' := (if r6 = 0 then 39 else 41, [some (.ref 40), some (.int x1), some (.int x2), none, none], [], 0, 0, (ab_G mi4 ml5))) rfl ⟨trivial, trivial⟩ ?_
        refine ab_wi (fun c => ?_) (fun c => ?_)
        · have h := h.1 c
          exact ab_wr 2 rfl ⟨trivial, trivial⟩ h
        · have h := h.2 c
          obtain ⟨mi7, ml8, hc, h⟩ := h
          refine ab_wc 3 (c := 221) (as := [.ref 40, .int x2]) (pc := 46) (ll := [some (.ref 40), some (.int x1), some (.int x2), none, none]) (st := []) (c1 := 0) (s1 := 0) (g := (ab_G mi4 ml5)) rfl ⟨trivial, trivial, trivial⟩ hc ?_
          refine ab_wk 3 (f' := (if (mi7 40 58) < 0 then 53 else 55, [some (.ref 40), some (.int x1), some (.int x2), none, none], [], 0, 0, (ab_G mi7 ml8))) rfl ⟨trivial, trivial, trivial, trivial⟩ ?_
          refine ab_wi (fun c => ?_) (fun c => ?_)
          · have h := h.1 c
            exact ab_wr 2 rfl ⟨trivial, trivial⟩ h
          · have h := h.2 c
            obtain ⟨mi9, ml10, hc, h⟩ := h
            refine ab_wc 2 (c := 190) (as := [.ref 40]) (pc := 59) (ll := [some (.ref 40), some (.int x1), some (.int x2), none, none]) (st := []) (c1 := 0) (s1 := 0) (g := (ab_G mi7 ml8)) rfl ⟨trivial, trivial⟩ hc ?_
            obtain ⟨p0, h⟩ := h
            obtain ⟨r13, mi11, ml12, hc, h⟩ := h
            refine ab_wc 9 (c := 160) (as := [.long (ml10 40 40), .long (ml10 40 41), .int (mi9 81 (x1).toNatClampNeg)]) (pc := 76) (ll := [some (.ref 40), some (.int x1), some (.int x2), none, none]) (st := []) (c1 := 0) (s1 := 0) (g := (ab_G mi9 ml10)) rfl ⟨trivial, trivial, trivial, trivial, trivial, trivial, trivial, p0, trivial⟩ hc ?_
            obtain ⟨mi14, ml15, hc, h⟩ := h
            refine ab_wc 5 (c := 210) (as := [.ref 40, .int (mi11 40 58)]) (pc := 85) (ll := [some (.ref 40), some (.int x1), some (.int x2), some (.int r13), none]) (st := []) (c1 := 0) (s1 := 0) (g := (ab_G mi11 ml12)) rfl ⟨trivial, trivial, trivial, trivial, trivial⟩ hc ?_
            obtain ⟨mi16, ml17, hc, h⟩ := h
            refine ab_wc 2 (c := 187) (as := [.ref 40]) (pc := 89) (ll := [some (.ref 40), some (.int x1), some (.int x2), some (.int r13), none]) (st := []) (c1 := 0) (s1 := 0) (g := (ab_G mi14 ml15)) rfl ⟨trivial, trivial⟩ hc ?_
            obtain ⟨p0, h⟩ := h
            obtain ⟨r20, mi18, ml19, hc, h⟩ := h
            refine ab_wc 9 (c := 160) (as := [.long (ml17 40 40), .long (ml17 40 41), .int (mi16 81 (x1).toNatClampNeg)]) (pc := 106) (ll := [some (.ref 40), some (.int x1), some (.int x2), some (.int r13), none]) (st := []) (c1 := 0) (s1 := 0) (g := (ab_G mi16 ml17)) rfl ⟨trivial, trivial, trivial, trivial, trivial, trivial, trivial, p0, trivial⟩ hc ?_
            refine ab_wk 2 (f' := (if r20 = r13 then 110 else 112, [some (.ref 40), some (.int x1), some (.int x2), some (.int r13), none], [], 0, 0, (ab_G mi18 ml19))) rfl ⟨trivial, trivial, trivial⟩ ?_
            refine ab_wi (fun c => ?_) (fun c => ?_)
            · have h := h.1 c
              exact ab_wr 2 rfl ⟨trivial, trivial⟩ h
            · have h := h.2 c
              exact ab_wk 2 (f' := (115, [some (.ref 40), some (.int x1), some (.int x2), some (.int r13), some (.int 0)], [], 0, 0, (ab_G mi18 ml19))) rfl ⟨trivial, trivial, trivial⟩ h
    · have h := h.2 c
      exact ab_wr 2 rfl ⟨trivial, trivial⟩ h
theorem vc_X12_blamed_115 {call : Nat → List Value → ab_S → Option Value → ab_S → Prop} {ro : ab_E} {Q : Option Value → ab_S → Prop} (y1 : Int32) (y2 : Int32) (y3 : Int32) (y4 : Int32) (mi : Nat → Nat → Int32) (ml : Nat → Nat → Int64)
    (h : ((y4 < (mi 40 45)) → ((((((mi 40 58) >>> (y4 &&& 31)) &&& 1) = 1) → (∃ (mi21 : Nat → Nat → Int32) (ml22 : Nat → Nat → Int64), call 210 [.ref 40, .int ((mi 40 58) &&& (((1 : Int32) <<< (y4 &&& 31)) ^^^ (-1)))] (ab_G mi ml) none (ab_G mi21 ml22) ∧ (∃ (mi23 : Nat → Nat → Int32) (ml24 : Nat → Nat → Int64), call 187 [.ref 40] (ab_G mi21 ml22) none (ab_G mi23 ml24) ∧ (vp_in y1 40 ∧ (∃ (r27 : Int32) (mi25 : Nat → Nat → Int32) (ml26 : Nat → Nat → Int64), call 160 [.long (ml24 40 40), .long (ml24 40 41), .int (mi23 81 (y1).toNatClampNeg)] (ab_G mi23 ml24) (some (.int r27)) (ab_G mi25 ml26) ∧ (((r27 = y3) → (Q (some (.int y4)) (ab_G mi25 ml26))) ∧ (¬ (r27 = y3) → (ab_W call ro 0 0 (ab_lk2 pl_X12_blamed) Q (115, [some (.ref 40), some (.int y1), some (.int y2), some (.int y3), some (.int (y4 + 1))], [], 0, 0, (ab_G mi25 ml26)))))))))) ∧ (¬ ((((mi 40 58) >>> (y4 &&& 31)) &&& 1) = 1) → (ab_W call ro 0 0 (ab_lk2 pl_X12_blamed) Q (115, [some (.ref 40), some (.int y1), some (.int y2), some (.int y3), some (.int (y4 + 1))], [], 0, 0, (ab_G mi ml)))))) ∧ (¬ (y4 < (mi 40 45)) → (Q (some (.int (-1))) (ab_G mi ml)))) :
    ab_W call ro 0 0 (ab_lk2 pl_X12_blamed) Q (115, [some (.ref 40), some (.int y1), some (.int y2), some (.int y3), some (.int y4)], [], 0, 0, ab_G mi ml) := by
  refine ab_wk 4 (f' := (if y4 < (mi 40 45) then 124 else 186, [some (.ref 40), some (.int y1), some (.int y2), some (.int y3), some (.int y4)], [], 0, 0, (ab_G mi ml))) rfl ⟨trivial, trivial, trivial, trivial, trivial⟩ ?_
  refine ab_wi (fun c => ?_) (fun c => ?_)
  · have h := h.1 c
    refine ab_wk 8 (f' := (if (((mi 40 58) >>> (y4 &&& 31)) &&& 1) = 1 then 137 else 180, [some (.ref 40), some (.int y1), some (.int y2), some (.int y3), some (.int y4)], [], 0, 0, (ab_G mi ml))) rfl ⟨trivial, trivial, trivial, trivial, trivial, trivial, trivial, trivial, trivial⟩ ?_
    refine ab_wi (fun c => ?_) (fun c => ?_)
    · have h := h.1 c
      obtain ⟨mi21, ml22, hc, h⟩ := h
      refine ab_wc 10 (c := 210) (as := [.ref 40, .int ((mi 40 58) &&& (((1 : Int32) <<< (y4 &&& 31)) ^^^ (-1)))]) (pc := 152) (ll := [some (.ref 40), some (.int y1), some (.int y2), some (.int y3), some (.int y4)]) (st := []) (c1 := 0) (s1 := 0) (g := (ab_G mi ml)) rfl ⟨trivial, trivial, trivial, trivial, trivial, trivial, trivial, trivial, trivial, trivial⟩ hc ?_
      obtain ⟨mi23, ml24, hc, h⟩ := h
      refine ab_wc 2 (c := 187) (as := [.ref 40]) (pc := 156) (ll := [some (.ref 40), some (.int y1), some (.int y2), some (.int y3), some (.int y4)]) (st := []) (c1 := 0) (s1 := 0) (g := (ab_G mi21 ml22)) rfl ⟨trivial, trivial⟩ hc ?_
      obtain ⟨p0, h⟩ := h
      obtain ⟨r27, mi25, ml26, hc, h⟩ := h
      refine ab_wc 9 (c := 160) (as := [.long (ml24 40 40), .long (ml24 40 41), .int (mi23 81 (y1).toNatClampNeg)]) (pc := 173) (ll := [some (.ref 40), some (.int y1), some (.int y2), some (.int y3), some (.int y4)]) (st := []) (c1 := 0) (s1 := 0) (g := (ab_G mi23 ml24)) rfl ⟨trivial, trivial, trivial, trivial, trivial, trivial, trivial, p0, trivial⟩ hc ?_
      refine ab_wk 2 (f' := (if r27 = y3 then 177 else 180, [some (.ref 40), some (.int y1), some (.int y2), some (.int y3), some (.int y4)], [], 0, 0, (ab_G mi25 ml26))) rfl ⟨trivial, trivial, trivial⟩ ?_
      refine ab_wi (fun c => ?_) (fun c => ?_)
      · have h := h.1 c
        exact ab_wr 2 rfl ⟨trivial, trivial⟩ h
      · have h := h.2 c
        exact ab_wk 2 (f' := (115, [some (.ref 40), some (.int y1), some (.int y2), some (.int y3), some (.int (y4 + 1))], [], 0, 0, (ab_G mi25 ml26))) rfl ⟨trivial, trivial, trivial⟩ h
    · have h := h.2 c
      exact ab_wk 2 (f' := (115, [some (.ref 40), some (.int y1), some (.int y2), some (.int y3), some (.int (y4 + 1))], [], 0, 0, (ab_G mi ml))) rfl ⟨trivial, trivial, trivial⟩ h
  · have h := h.2 c
    exact ab_wr 2 rfl ⟨trivial, trivial⟩ h
theorem vc_X12_beside_0 {call : Nat → List Value → ab_S → Option Value → ab_S → Prop} {ro : ab_E} {Q : Option Value → ab_S → Prop} (x1 : Int32) (x2 : Int32) (mi : Nat → Nat → Int32) (ml : Nat → Nat → Int64)
    (h : ∃ (r3 : Int32) (mi1 : Nat → Nat → Int32) (ml2 : Nat → Nat → Int64), call 178 [.int x1, .int 0, .int 3] (ab_G (ab_ui mi 40 0 0) ml) (some (.int r3)) (ab_G mi1 ml2) ∧ (((r3 = 0) → (Q (some (.int (-1))) (ab_G mi1 ml2))) ∧ (¬ (r3 = 0) → (∃ (r6 : Int32) (mi4 : Nat → Nat → Int32) (ml5 : Nat → Nat → Int64), call 178 [.int x2, .int 0, .int 3] (ab_G mi1 ml2) (some (.int r6)) (ab_G mi4 ml5) ∧ (((r6 = 0) → (Q (some (.int (-1))) (ab_G mi4 ml5))) ∧ (¬ (r6 = 0) → (∃ (mi7 : Nat → Nat → Int32) (ml8 : Nat → Nat → Int64), call 221 [.ref 40, .int x1] (ab_G mi4 ml5) none (ab_G mi7 ml8) ∧ (∃ (mi9 : Nat → Nat → Int32) (ml10 : Nat → Nat → Int64), call 221 [.ref 40, .int x2] (ab_G mi7 ml8) none (ab_G mi9 ml10) ∧ ((((mi7 40 58) < 0) → (Q (some (.int (-1))) (ab_G mi9 ml10))) ∧ (¬ ((mi7 40 58) < 0) → ((((mi9 40 58) < 0) → (Q (some (.int (-1))) (ab_G mi9 ml10))) ∧ (¬ ((mi9 40 58) < 0) → (Q (some (.int ((mi7 40 58) &&& ((mi9 40 58) ^^^ (-1))))) (ab_G mi9 ml10)))))))))))))) :
    ab_W call ro 0 0 (ab_lk2 pl_X12_beside) Q (0, [some (.ref 40), some (.int x1), some (.int x2), none], [], 0, 0, ab_G mi ml) := by
  obtain ⟨r3, mi1, ml2, hc, h⟩ := h
  refine ab_wc 7 (c := 178) (as := [.int x1, .int 0, .int 3]) (pc := 11) (ll := [some (.ref 40), some (.int x1), some (.int x2), none]) (st := []) (c1 := 0) (s1 := 0) (g := (ab_G (ab_ui mi 40 0 0) ml)) rfl ⟨trivial, trivial, trivial, trivial, trivial, trivial, trivial⟩ hc ?_
  refine ab_wk 1 (f' := (if r3 = 0 then 23 else 14, [some (.ref 40), some (.int x1), some (.int x2), none], [], 0, 0, (ab_G mi1 ml2))) rfl ⟨trivial, trivial⟩ ?_
  refine ab_wi (fun c => ?_) (fun c => ?_)
  · have h := h.1 c
    exact ab_wr 2 rfl ⟨trivial, trivial⟩ h
  · have h := h.2 c
    obtain ⟨r6, mi4, ml5, hc, h⟩ := h
    refine ab_wc 4 (c := 178) (as := [.int x2, .int 0, .int 3]) (pc := 20) (ll := [some (.ref 40), some (.int x1), some (.int x2), none]) (st := []) (c1 := 0) (s1 := 0) (g := (ab_G mi1 ml2)) rfl ⟨trivial, trivial, trivial, trivial⟩ hc ?_
    refine ab_wk 1 (f' := (if r6 = 0 then 23 else 25, [some (.ref 40), some (.int x1), some (.int x2), none], [], 0, 0, (ab_G mi4 ml5))) rfl ⟨trivial, trivial⟩ ?_
    refine ab_wi (fun c => ?_) (fun c => ?_)
    · have h := h.1 c
      exact ab_wr 2 rfl ⟨trivial, trivial⟩ h
    · have h := h.2 c
      obtain ⟨mi7, ml8, hc, h⟩ := h
      refine ab_wc 3 (c := 221) (as := [.ref 40, .int x1]) (pc := 30) (ll := [some (.ref 40), some (.int x1), some (.int x2), none]) (st := []) (c1 := 0) (s1 := 0) (g := (ab_G mi4 ml5)) rfl ⟨trivial, trivial, trivial⟩ hc ?_
      obtain ⟨mi9, ml10, hc, h⟩ := h
      refine ab_wc 6 (c := 221) (as := [.ref 40, .int x2]) (pc := 40) (ll := [some (.ref 40), some (.int x1), some (.int x2), some (.int (mi7 40 58))]) (st := []) (c1 := 0) (s1 := 0) (g := (ab_G mi7 ml8)) rfl ⟨trivial, trivial, trivial, trivial, trivial, trivial⟩ hc ?_
      refine ab_wk 2 (f' := (if (mi7 40 58) < 0 then 51 else 44, [some (.ref 40), some (.int x1), some (.int x2), some (.int (mi7 40 58))], [], 0, 0, (ab_G mi9 ml10))) rfl ⟨trivial, trivial, trivial⟩ ?_
      refine ab_wi (fun c => ?_) (fun c => ?_)
      · have h := h.1 c
        exact ab_wr 3 rfl ⟨trivial, trivial, trivial⟩ h
      · have h := h.2 c
        refine ab_wk 3 (f' := (if (mi9 40 58) < 0 then 51 else 55, [some (.ref 40), some (.int x1), some (.int x2), some (.int (mi7 40 58))], [], 0, 0, (ab_G mi9 ml10))) rfl ⟨trivial, trivial, trivial, trivial⟩ ?_
        refine ab_wi (fun c => ?_) (fun c => ?_)
        · have h := h.1 c
          exact ab_wr 3 rfl ⟨trivial, trivial, trivial⟩ h
        · have h := h.2 c
          exact ab_wr 7 rfl ⟨trivial, trivial, trivial, trivial, trivial, trivial, trivial⟩ h
theorem vc_X12_count_0 {call : Nat → List Value → ab_S → Option Value → ab_S → Prop} {ro : ab_E} {Q : Option Value → ab_S → Prop} (x1 : Int32) (mi : Nat → Nat → Int32) (ml : Nat → Nat → Int64)
    (h : ∃ (r3 : Int32) (mi1 : Nat → Nat → Int32) (ml2 : Nat → Nat → Int64), call 178 [.int x1, .int 0, .int 9] (ab_G mi ml) (some (.int r3)) (ab_G mi1 ml2) ∧ (((r3 = 0) → (((x1 = 0) → (Q (some (.int (mi1 40 34))) (ab_G (ab_ui mi1 40 0 1) ml2))) ∧ (¬ (x1 = 0) → (((x1 = 1) → (∃ (r6 : Int32) (mi4 : Nat → Nat → Int32) (ml5 : Nat → Nat → Int64), call 181 [.ref 40] (ab_G (ab_ui mi1 40 0 1) ml2) (some (.int r6)) (ab_G mi4 ml5) ∧ (Q (some (.int r6)) (ab_G mi4 ml5)))) ∧ (¬ (x1 = 1) → (((x1 = 2) → (Q (some (.int (mi1 40 20))) (ab_G (ab_ui mi1 40 0 1) ml2))) ∧ (¬ (x1 = 2) → (((x1 = 3) → (ab_W call ro 0 0 (ab_lk2 pl_X12_count) Q (93, [some (.ref 40), some (.int x1), some (.int 0), some (.int 0)], [], 0, 0, (ab_G (ab_ui mi1 40 0 1) ml2)))) ∧ (¬ (x1 = 3) → (((x1 = 4) → (∃ (mi7 : Nat → Nat → Int32) (ml8 : Nat → Nat → Int64), call 198 [.ref 40] (ab_G (ab_ui mi1 40 0 1) ml2) none (ab_G mi7 ml8) ∧ (Q (some (.int (mi7 40 45))) (ab_G mi7 ml8)))) ∧ (¬ (x1 = 4) → (((x1 = 5) → (Q (some (.int (mi1 40 69))) (ab_G (ab_ui mi1 40 0 1) ml2))) ∧ (¬ (x1 = 5) → (((x1 = 6) → (∃ (r11 : Int32) (mi9 : Nat → Nat → Int32) (ml10 : Nat → Nat → Int64), call 238 [.ref 40] (ab_G (ab_ui mi1 40 0 1) ml2) (some (.int r11)) (ab_G mi9 ml10) ∧ (Q (some (.int r11)) (ab_G mi9 ml10)))) ∧ (¬ (x1 = 6) → (((x1 = 7) → (Q (some (.int (mi1 40 2))) (ab_G (ab_ui mi1 40 0 1) ml2))) ∧ (¬ (x1 = 7) → (((x1 = 8) → (ab_W call ro 0 0 (ab_lk2 pl_X12_count) Q (151, [some (.ref 40), some (.int x1), some (.int 0), some (.int 0)], [], 0, 0, (ab_G (ab_ui mi1 40 0 1) ml2)))) ∧ (¬ (x1 = 8) → (((x1 = 9) → (Q (some (.int (mi1 40 30))) (ab_G (ab_ui mi1 40 0 1) ml2))) ∧ (¬ (x1 = 9) → (Q (some (.int 0)) (ab_G (ab_ui mi1 40 0 1) ml2))))))))))))))))))))))) ∧ (¬ (r3 = 0) → (((x1 = 0) → (Q (some (.int (mi1 40 34))) (ab_G (ab_ui mi1 40 0 0) ml2))) ∧ (¬ (x1 = 0) → (((x1 = 1) → (∃ (r14 : Int32) (mi12 : Nat → Nat → Int32) (ml13 : Nat → Nat → Int64), call 181 [.ref 40] (ab_G (ab_ui mi1 40 0 0) ml2) (some (.int r14)) (ab_G mi12 ml13) ∧ (Q (some (.int r14)) (ab_G mi12 ml13)))) ∧ (¬ (x1 = 1) → (((x1 = 2) → (Q (some (.int (mi1 40 20))) (ab_G (ab_ui mi1 40 0 0) ml2))) ∧ (¬ (x1 = 2) → (((x1 = 3) → (ab_W call ro 0 0 (ab_lk2 pl_X12_count) Q (93, [some (.ref 40), some (.int x1), some (.int 0), some (.int 0)], [], 0, 0, (ab_G (ab_ui mi1 40 0 0) ml2)))) ∧ (¬ (x1 = 3) → (((x1 = 4) → (∃ (mi15 : Nat → Nat → Int32) (ml16 : Nat → Nat → Int64), call 198 [.ref 40] (ab_G (ab_ui mi1 40 0 0) ml2) none (ab_G mi15 ml16) ∧ (Q (some (.int (mi15 40 45))) (ab_G mi15 ml16)))) ∧ (¬ (x1 = 4) → (((x1 = 5) → (Q (some (.int (mi1 40 69))) (ab_G (ab_ui mi1 40 0 0) ml2))) ∧ (¬ (x1 = 5) → (((x1 = 6) → (∃ (r19 : Int32) (mi17 : Nat → Nat → Int32) (ml18 : Nat → Nat → Int64), call 238 [.ref 40] (ab_G (ab_ui mi1 40 0 0) ml2) (some (.int r19)) (ab_G mi17 ml18) ∧ (Q (some (.int r19)) (ab_G mi17 ml18)))) ∧ (¬ (x1 = 6) → (((x1 = 7) → (Q (some (.int (mi1 40 2))) (ab_G (ab_ui mi1 40 0 0) ml2))) ∧ (¬ (x1 = 7) → (((x1 = 8) → (ab_W call ro 0 0 (ab_lk2 pl_X12_count) Q (151, [some (.ref 40), some (.int x1), some (.int 0), some (.int 0)], [], 0, 0, (ab_G (ab_ui mi1 40 0 0) ml2)))) ∧ (¬ (x1 = 8) → (((x1 = 9) → (Q (some (.int (mi1 40 30))) (ab_G (ab_ui mi1 40 0 0) ml2))) ∧ (¬ (x1 = 9) → (Q (some (.int 0)) (ab_G (ab_ui mi1 40 0 0) ml2))))))))))))))))))))))))) :
    ab_W call ro 0 0 (ab_lk2 pl_X12_count) Q (0, [some (.ref 40), some (.int x1), none, none], [], 0, 0, ab_G mi ml) := by
  obtain ⟨r3, mi1, ml2, hc, h⟩ := h
  refine ab_wc 5 (c := 178) (as := [.int x1, .int 0, .int 9]) (pc := 8) (ll := [some (.ref 40), some (.int x1), none, none]) (st := [.ref 40]) (c1 := 0) (s1 := 0) (g := (ab_G mi ml)) rfl ⟨trivial, trivial, trivial, trivial, trivial⟩ hc ?_
  refine ab_wk 1 (f' := (if r3 = 0 then 15 else 11, [some (.ref 40), some (.int x1), none, none], [.ref 40], 0, 0, (ab_G mi1 ml2))) rfl ⟨trivial, trivial⟩ ?_
  refine ab_wi (fun c => ?_) (fun c => ?_)
  · have h := h.1 c
    refine ab_wk 6 (f' := (ab_sw x1 [(0, 76), (1, 81), (2, 86), (3, 91), (4, 125), (5, 134), (6, 139), (7, 144), (8, 149), (9, 184)] 189, [some (.ref 40), some (.int x1), some (.int 0), none], [], 0, 0, (ab_G (ab_ui mi1 40 0 1) ml2))) rfl ⟨trivial, trivial, trivial, trivial, trivial, trivial, trivial⟩ ?_
    refine ab_wi (fun c => ?_) (fun c => ?_)
    · have h := h.1 c
      exact ab_wr 3 rfl ⟨trivial, trivial, trivial⟩ h
    · have h := h.2 c
      refine ab_wi (fun c => ?_) (fun c => ?_)
      · have h := h.1 c
        obtain ⟨r6, mi4, ml5, hc, h⟩ := h
        refine ab_wc 2 (c := 181) (as := [.ref 40]) (pc := 85) (ll := [some (.ref 40), some (.int x1), some (.int 0), none]) (st := []) (c1 := 0) (s1 := 0) (g := (ab_G (ab_ui mi1 40 0 1) ml2)) rfl ⟨trivial, trivial⟩ hc ?_
        exact ab_wr 1 rfl trivial h
      · have h := h.2 c
        refine ab_wi (fun c => ?_) (fun c => ?_)
        · have h := h.1 c
          exact ab_wr 3 rfl ⟨trivial, trivial, trivial⟩ h
        · have h := h.2 c
          refine ab_wi (fun c => ?_) (fun c => ?_)
          · have h := h.1 c
            exact ab_wk 2 (f' := (93, [some (.ref 40), some (.int x1), some (.int 0), some (.int 0)], [], 0, 0, (ab_G (ab_ui mi1 40 0 1) ml2))) rfl ⟨trivial, trivial, trivial⟩ h
          · have h := h.2 c
            refine ab_wi (fun c => ?_) (fun c => ?_)
            · have h := h.1 c
              obtain ⟨mi7, ml8, hc, h⟩ := h
              refine ab_wc 2 (c := 198) (as := [.ref 40]) (pc := 129) (ll := [some (.ref 40), some (.int x1), some (.int 0), none]) (st := []) (c1 := 0) (s1 := 0) (g := (ab_G (ab_ui mi1 40 0 1) ml2)) rfl ⟨trivial, trivial⟩ hc ?_
              exact ab_wr 3 rfl ⟨trivial, trivial, trivial⟩ h
            · have h := h.2 c
              refine ab_wi (fun c => ?_) (fun c => ?_)
              · have h := h.1 c
                exact ab_wr 3 rfl ⟨trivial, trivial, trivial⟩ h
              · have h := h.2 c
                refine ab_wi (fun c => ?_) (fun c => ?_)
                · have h := h.1 c
                  obtain ⟨r11, mi9, ml10, hc, h⟩ := h
                  refine ab_wc 2 (c := 238) (as := [.ref 40]) (pc := 143) (ll := [some (.ref 40), some (.int x1), some (.int 0), none]) (st := []) (c1 := 0) (s1 := 0) (g := (ab_G (ab_ui mi1 40 0 1) ml2)) rfl ⟨trivial, trivial⟩ hc ?_
                  exact ab_wr 1 rfl trivial h
                · have h := h.2 c
                  refine ab_wi (fun c => ?_) (fun c => ?_)
                  · have h := h.1 c
                    exact ab_wr 3 rfl ⟨trivial, trivial, trivial⟩ h
                  · have h := h.2 c
                    refine ab_wi (fun c => ?_) (fun c => ?_)
                    · have h := h.1 c
                      exact ab_wk 2 (f' := (151, [some (.ref 40), some (.int x1), some (.int 0), some (.int 0)], [], 0, 0, (ab_G (ab_ui mi1 40 0 1) ml2))) rfl ⟨trivial, trivial, trivial⟩ h
                    · have h := h.2 c
                      refine ab_wi (fun c => ?_) (fun c => ?_)
                      · have h := h.1 c
                        exact ab_wr 3 rfl ⟨trivial, trivial, trivial⟩ h
                      · have h := h.2 c
                        exact ab_wr 2 rfl ⟨trivial, trivial⟩ h
  · have h := h.2 c
    refine ab_wk 7 (f' := (ab_sw x1 [(0, 76), (1, 81), (2, 86), (3, 91), (4, 125), (5, 134), (6, 139), (7, 144), (8, 149), (9, 184)] 189, [some (.ref 40), some (.int x1), some (.int 0), none], [], 0, 0, (ab_G (ab_ui mi1 40 0 0) ml2))) rfl ⟨trivial, trivial, trivial, trivial, trivial, trivial, trivial, trivial⟩ ?_
    refine ab_wi (fun c => ?_) (fun c => ?_)
    · have h := h.1 c
      exact ab_wr 3 rfl ⟨trivial, trivial, trivial⟩ h
    · have h := h.2 c
      refine ab_wi (fun c => ?_) (fun c => ?_)
      · have h := h.1 c
        obtain ⟨r14, mi12, ml13, hc, h⟩ := h
        refine ab_wc 2 (c := 181) (as := [.ref 40]) (pc := 85) (ll := [some (.ref 40), some (.int x1), some (.int 0), none]) (st := []) (c1 := 0) (s1 := 0) (g := (ab_G (ab_ui mi1 40 0 0) ml2)) rfl ⟨trivial, trivial⟩ hc ?_
        exact ab_wr 1 rfl trivial h
      · have h := h.2 c
        refine ab_wi (fun c => ?_) (fun c => ?_)
        · have h := h.1 c
          exact ab_wr 3 rfl ⟨trivial, trivial, trivial⟩ h
        · have h := h.2 c
          refine ab_wi (fun c => ?_) (fun c => ?_)
          · have h := h.1 c
            exact ab_wk 2 (f' := (93, [some (.ref 40), some (.int x1), some (.int 0), some (.int 0)], [], 0, 0, (ab_G (ab_ui mi1 40 0 0) ml2))) rfl ⟨trivial, trivial, trivial⟩ h
          · have h := h.2 c
            refine ab_wi (fun c => ?_) (fun c => ?_)
            · have h := h.1 c
              obtain ⟨mi15, ml16, hc, h⟩ := h
              refine ab_wc 2 (c := 198) (as := [.ref 40]) (pc := 129) (ll := [some (.ref 40), some (.int x1), some (.int 0), none]) (st := []) (c1 := 0) (s1 := 0) (g := (ab_G (ab_ui mi1 40 0 0) ml2)) rfl ⟨trivial, trivial⟩ hc ?_
              exact ab_wr 3 rfl ⟨trivial, trivial, trivial⟩ h
            · have h := h.2 c
              refine ab_wi (fun c => ?_) (fun c => ?_)
              · have h := h.1 c
                exact ab_wr 3 rfl ⟨trivial, trivial, trivial⟩ h
              · have h := h.2 c
                refine ab_wi (fun c => ?_) (fun c => ?_)
                · have h := h.1 c
                  obtain ⟨r19, mi17, ml18, hc, h⟩ := h
                  refine ab_wc 2 (c := 238) (as := [.ref 40]) (pc := 143) (ll := [some (.ref 40), some (.int x1), some (.int 0), none]) (st := []) (c1 := 0) (s1 := 0) (g := (ab_G (ab_ui mi1 40 0 0) ml2)) rfl ⟨trivial, trivial⟩ hc ?_
                  exact ab_wr 1 rfl trivial h
                · have h := h.2 c
                  refine ab_wi (fun c => ?_) (fun c => ?_)
                  · have h := h.1 c
                    exact ab_wr 3 rfl ⟨trivial, trivial, trivial⟩ h
                  · have h := h.2 c
                    refine ab_wi (fun c => ?_) (fun c => ?_)
                    · have h := h.1 c
                      exact ab_wk 2 (f' := (151, [some (.ref 40), some (.int x1), some (.int 0), some (.int 0)], [], 0, 0, (ab_G (ab_ui mi1 40 0 0) ml2))) rfl ⟨trivial, trivial, trivial⟩ h
                    · have h := h.2 c
                      refine ab_wi (fun c => ?_) (fun c => ?_)
                      · have h := h.1 c
                        exact ab_wr 3 rfl ⟨trivial, trivial, trivial⟩ h
                      · have h := h.2 c
                        exact ab_wr 2 rfl ⟨trivial, trivial⟩ h
theorem vc_X12_count_151 {call : Nat → List Value → ab_S → Option Value → ab_S → Prop} {ro : ab_E} {Q : Option Value → ab_S → Prop} (y1 : Int32) (y2 : Int32) (y3 : Int32) (mi : Nat → Nat → Int32) (ml : Nat → Nat → Int64)
    (h : ((y3 < (mi 40 20)) → (vp_in y3 30 ∧ ((((mi 59 (y3).toNatClampNeg) < 0) → (ab_W call ro 0 0 (ab_lk2 pl_X12_count) Q (151, [some (.ref 40), some (.int y1), some (.int (y2 + 0)), some (.int (y3 + 1))], [], 0, 0, (ab_G mi ml)))) ∧ (¬ ((mi 59 (y3).toNatClampNeg) < 0) → (ab_W call ro 0 0 (ab_lk2 pl_X12_count) Q (151, [some (.ref 40), some (.int y1), some (.int (y2 + 1)), some (.int (y3 + 1))], [], 0, 0, (ab_G mi ml))))))) ∧ (¬ (y3 < (mi 40 20)) → (Q (some (.int y2)) (ab_G mi ml)))) :
    ab_W call ro 0 0 (ab_lk2 pl_X12_count) Q (151, [some (.ref 40), some (.int y1), some (.int y2), some (.int y3)], [], 0, 0, ab_G mi ml) := by
  refine ab_wk 4 (f' := (if y3 < (mi 40 20) then 159 else 182, [some (.ref 40), some (.int y1), some (.int y2), some (.int y3)], [], 0, 0, (ab_G mi ml))) rfl ⟨trivial, trivial, trivial, trivial, trivial⟩ ?_
  refine ab_wi (fun c => ?_) (fun c => ?_)
  · have h := h.1 c
    obtain ⟨p0, h⟩ := h
    refine ab_wk 6 (f' := (if (mi 59 (y3).toNatClampNeg) < 0 then 173 else 169, [some (.ref 40), some (.int y1), some (.int y2), some (.int y3)], [.int y2], 0, 0, (ab_G mi ml))) rfl ⟨trivial, trivial, trivial, trivial, p0, trivial, trivial⟩ ?_
    refine ab_wi (fun c => ?_) (fun c => ?_)
    · have h := h.1 c
      exact ab_wk 5 (f' := (151, [some (.ref 40), some (.int y1), some (.int (y2 + 0)), some (.int (y3 + 1))], [], 0, 0, (ab_G mi ml))) rfl ⟨trivial, trivial, trivial, trivial, trivial, trivial⟩ h
    · have h := h.2 c
      exact ab_wk 6 (f' := (151, [some (.ref 40), some (.int y1), some (.int (y2 + 1)), some (.int (y3 + 1))], [], 0, 0, (ab_G mi ml))) rfl ⟨trivial, trivial, trivial, trivial, trivial, trivial, trivial⟩ h
  · have h := h.2 c
    exact ab_wr 2 rfl ⟨trivial, trivial⟩ h
theorem vc_X12_count_93 {call : Nat → List Value → ab_S → Option Value → ab_S → Prop} {ro : ab_E} {Q : Option Value → ab_S → Prop} (y1 : Int32) (y2 : Int32) (y3 : Int32) (mi : Nat → Nat → Int32) (ml : Nat → Nat → Int64)
    (h : ((y3 < (mi 40 20)) → (∃ (r22 : Int32) (mi20 : Nat → Nat → Int32) (ml21 : Nat → Nat → Int64), call 183 [.ref 40, .int y3] (ab_G mi ml) (some (.int r22)) (ab_G mi20 ml21) ∧ (((r22 = 0) → (ab_W call ro 0 0 (ab_lk2 pl_X12_count) Q (93, [some (.ref 40), some (.int y1), some (.int (y2 + 0)), some (.int (y3 + 1))], [], 0, 0, (ab_G mi20 ml21)))) ∧ (¬ (r22 = 0) → (ab_W call ro 0 0 (ab_lk2 pl_X12_count) Q (93, [some (.ref 40), some (.int y1), some (.int (y2 + 1)), some (.int (y3 + 1))], [], 0, 0, (ab_G mi20 ml21))))))) ∧ (¬ (y3 < (mi 40 20)) → (Q (some (.int y2)) (ab_G mi ml)))) :
    ab_W call ro 0 0 (ab_lk2 pl_X12_count) Q (93, [some (.ref 40), some (.int y1), some (.int y2), some (.int y3)], [], 0, 0, ab_G mi ml) := by
  refine ab_wk 4 (f' := (if y3 < (mi 40 20) then 101 else 123, [some (.ref 40), some (.int y1), some (.int y2), some (.int y3)], [], 0, 0, (ab_G mi ml))) rfl ⟨trivial, trivial, trivial, trivial, trivial⟩ ?_
  refine ab_wi (fun c => ?_) (fun c => ?_)
  · have h := h.1 c
    obtain ⟨r22, mi20, ml21, hc, h⟩ := h
    refine ab_wc 4 (c := 183) (as := [.ref 40, .int y3]) (pc := 107) (ll := [some (.ref 40), some (.int y1), some (.int y2), some (.int y3)]) (st := [.int y2]) (c1 := 0) (s1 := 0) (g := (ab_G mi ml)) rfl ⟨trivial, trivial, trivial, trivial⟩ hc ?_
    refine ab_wk 1 (f' := (if r22 = 0 then 114 else 110, [some (.ref 40), some (.int y1), some (.int y2), some (.int y3)], [.int y2], 0, 0, (ab_G mi20 ml21))) rfl ⟨trivial, trivial⟩ ?_
    refine ab_wi (fun c => ?_) (fun c => ?_)
    · have h := h.1 c
      exact ab_wk 5 (f' := (93, [some (.ref 40), some (.int y1), some (.int (y2 + 0)), some (.int (y3 + 1))], [], 0, 0, (ab_G mi20 ml21))) rfl ⟨trivial, trivial, trivial, trivial, trivial, trivial⟩ h
    · have h := h.2 c
      exact ab_wk 6 (f' := (93, [some (.ref 40), some (.int y1), some (.int (y2 + 1)), some (.int (y3 + 1))], [], 0, 0, (ab_G mi20 ml21))) rfl ⟨trivial, trivial, trivial, trivial, trivial, trivial, trivial⟩ h
  · have h := h.2 c
    exact ab_wr 2 rfl ⟨trivial, trivial⟩ h
