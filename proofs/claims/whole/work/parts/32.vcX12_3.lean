theorem vc_X12_count_0 {call : Nat → List Value → ab_S → Option Value → ab_S → Prop} {ro : ab_E} {Q : Option Value → ab_S → Prop} (x1 : Int32) (mi : Nat → Nat → Int32) (ml : Nat → Nat → Int64)
    (h : ∃ (r3 : Int32) (mi1 : Nat → Nat → Int32) (ml2 : Nat → Nat → Int64), call 178 [.int x1, .int 0, .int 9] (ab_G mi ml) (some (.int r3)) (ab_G mi1 ml2) ∧ (((r3 = 0) → (((x1 = 0) → (Q (some (.int (mi1 40 34))) (ab_G (ab_ui mi1 40 0 1) ml2))) ∧ (¬ (x1 = 0) → (((x1 = 1) → (∃ (r6 : Int32) (mi4 : Nat → Nat → Int32) (ml5 : Nat → Nat → Int64), call 181 [.ref 40] (ab_G (ab_ui mi1 40 0 1) ml2) (some (.int r6)) (ab_G mi4 ml5) ∧ (Q (some (.int r6)) (ab_G mi4 ml5)))) ∧ (¬ (x1 = 1) → (((x1 = 2) → (Q (some (.int (mi1 40 20))) (ab_G (ab_ui mi1 40 0 1) ml2))) ∧ (¬ (x1 = 2) → (((x1 = 3) → (ab_W call ro 0 0 (ab_lk2 pl_X12_count) Q (93, [some (.ref 40), some (.int x1), some (.int 0), some (.int 0)], [], 0, 0, (ab_G (ab_ui mi1 40 0 1) ml2)))) ∧ (¬ (x1 = 3) → (((x1 = 4) → (∃ (mi7 : Nat → Nat → Int32) (ml8 : Nat → Nat → Int64), call 198 [.ref 40] (ab_G (ab_ui mi1 40 0 1) ml2) none (ab_G mi7 ml8) ∧ (Q (some (.int (mi7 40 45))) (ab_G mi7 ml8)))) ∧ (¬ (x1 = 4) → (((x1 = 5) → (Q (some (.int (mi1 40 69))) (ab_G (ab_ui mi1 40 0 1) ml2))) ∧ (¬ (x1 = 5) → (((x1 = 6) → (∃ (r11 : Int32) (mi9 : Nat → Nat → Int32) (ml10 : Nat → Nat → Int64), call 238 [.ref 40] (ab_G (ab_ui mi1 40 0 1) ml2) (some (.int r11)) (ab_G mi9 ml10) ∧ (Q (some (.int r11)) (ab_G mi9 ml10)))) ∧ (¬ (x1 = 6) → (((x1 = 7) → (Q (some (.int (mi1 40 2))) (ab_G (ab_ui mi1 40 0 1) ml2))) ∧ (¬ (x1 = 7) → (((x1 = 8) → (ab_W call ro 0 0 (ab_lk2 pl_X12_count) Q (151, [some (.ref 40), some (.int x1), some (.int 0), some (.int 0)], [], 0, 0, (ab_G (ab_ui mi1 40 0 1) ml2)))) ∧ (¬ (x1 = 8) → (((x1 = 9) → (Q (some (.int (mi1 40 30))) (ab_G (ab_ui mi1 40 0 1) ml2))) ∧ (¬ (x1 = 9) → (Q (some (.int 0)) (ab_G (ab_ui mi1 40 0 1) ml2))))))))))))))))))))))) ∧ (¬ (r3 = 0) → (((x1 = 0) → (Q (some (.int (mi1 40 34))) (ab_G (ab_ui mi1 40 0 0) ml2))) ∧ (¬ (x1 = 0) → (((x1 = 1) → (∃ (r14 : Int32) (mi12 : Nat → Nat → Int32) (ml13 : Nat → Nat → Int64), call 181 [.ref 40] (ab_G (ab_ui mi1 40 0 0) ml2) (some (.int r14)) (ab_G mi12 ml13) ∧ (Q (some (.int r14)) (ab_G mi12 ml13)))) ∧ (¬ (x1 = 1) → (((x1 = 2) → (Q (some (.int (mi1 40 20))) (ab_G (ab_ui mi1 40 0 0) ml2))) ∧ (¬ (x1 = 2) → (((x1 = 3) → (ab_W call ro 0 0 (ab_lk2 pl_X12_count) Q (93, [some (.ref 40), some (.int x1), some (.int 0), some (.int 0)], [], 0, 0, (ab_G (ab_ui mi1 40 0 0) ml2)))) ∧ (¬ (x1 = 3) → (((x1 = 4) → (∃ (mi15 : Nat → Nat → Int32) (ml16 : Nat → Nat → Int64), call 198 [.ref 40] (ab_G (ab_ui mi1 40 0 0) ml2) none (ab_G mi15 ml16) ∧ (Q (some (.int (mi15 40 45))) (ab_G mi15 ml16)))) ∧ (¬ (x1 = 4) → (((x1 = 5) → (Q (some (.int (mi1 40 69))) (ab_G (ab_ui mi1 40 0 0) ml2))) ∧ (¬ (x1 = 5) → (((x1 = 6) → (∃ (r19 : Int32) (mi17 : Nat → Nat → Int32) (ml18 : Nat → Nat → Int64), call 238 [.ref 40] (ab_G (ab_ui mi1 40 0 0) ml2) (some (.int r19)) (ab_G mi17 ml18) ∧ (Q (some (.int r19)) (ab_G mi17 ml18)))) ∧ (¬ (x1 = 6) → (((x1 = 7) → (Q (some (.int (mi1 40 2))) (ab_G (ab_ui mi1 40 0 0) ml2))) ∧ (¬ (x1 = 7) → (((x1 = 8) → (ab_W call ro 0 0 (ab_lk2 pl_X12_count) Q (151, [some (.ref 40), some (.int x1), some (.int 0), some (.int 0)], [], 0, 0, (ab_G (ab_ui mi1 40 0 0) ml2)))) ∧ (¬ (x1 = 8) → (((x1 = 9) → (Q (some (.int (mi1 40 30))) (ab_G (ab_ui mi1 40 0 0) ml2))) ∧ (¬ (x1 = 9) → (Q (some (.int 0)) (ab_G (ab_ui mi1 40 0 0) ml2))))))))))))))))))))))))) :
    ab_W call ro 0 0 (ab_lk2 pl_X12_count) Q (0, [some (.ref 40), some (.int x1), none, none], [], 0, 0, ab_G mi ml) := by
  obtain ⟨r3, mi1, ml2, hc, h⟩ := h
  refine ab_wc 5 (c := 178) (as := [.int x1, .int 0, .int 9]) (pc := 8) (ll := [some (.ref 40), some (.int x1), none, none]) (st := [.ref 40]) (c1 := 0) (s1 := 0) (g := (ab_G mi ml)) rfl ⟨trivial, trivial, trivial, trivial, trivial⟩ hc ?_
  refine ab_wk 1 (f' := (if r3 = 0 then 15 else 11, [some (.ref 40), some (.int x1), none, none], [.ref 40], 0, 0, (ab_G mi1 ml2))) rfl ⟨trivial, trivial⟩ ?_
  refine ab_wi (fun c => ?_) (fun c => ?_)
  · have h := h.1 c
    refine ab_wk 6 (f' := (ab_sw x1 [(0, 76), (1, 81), (2, 86), (3, 91), (4, 125), (5, 134), (6, 139), (7, 144), (8, 149), (9, 184)] 189, [some (.ref 40), some (.int x1), some (.int 0), none], [], 0, 0, (ab_G (ab_ui mi1 40 0 1) ml2))) rfl ⟨trivial, trivial, trivial, trivial, trivial, trivial, trivial⟩ ?_
    refine ab_wi (fun c => ?_) (fun c => ?_)
    · have h := h.1 c
      exact ab_wr 3 rfl ⟨trivial, trivial, trivial⟩ h
    · have h := h.2 c
      refine ab_wi (fun c => ?_) (fun c => ?_)
      · have h := h.1 c
        obtain ⟨r6, mi4, ml5, hc, h⟩ := h
        refine ab_wc 2 (c := 181) (as := [.ref 40]) (pc := 85) (ll := [some (.ref 40), some (.int x1), some (.int 0), none]) (st := []) (c1 := 0) (s1 := 0) (g := (ab_G (ab_ui mi1 40 0 1) ml2)) rfl ⟨trivial, trivial⟩ hc ?_
        exact ab_wr 1 rfl trivial h
      · have h := h.2 c
        refine ab_wi (fun c => ?_) (fun c => ?_)
        · have h := h.1 c
          exact ab_wr 3 rfl ⟨trivial, trivial, trivial⟩ h
        · have h := h.2 c
          refine ab_wi (fun c => ?_) (fun c => ?_)
          · have h := h.1 c
            exact ab_wk 2 (f' := (93, [some (.ref 40), some (.int x1), some (.int 0), some (.int 0)], [], 0, 0, (ab_G (ab_ui mi1 40 0 1) ml2))) rfl ⟨trivial, trivial, trivial⟩ h
          · have h := h.2 c
            refine ab_wi (fun c => ?_) (fun c => ?_)
            · have h := h.1 c
              obtain ⟨mi7, ml8, hc, h⟩ := h
              refine ab_wc 2 (c := 198) (as := [.ref 40]) (pc := 129) (ll := [some (.ref 40), some (.int x1), some (.int 0), none]) (st := []) (c1 := 0) (s1 := 0) (g := (ab_G (ab_ui mi1 40 0 1) ml2)) rfl ⟨trivial, trivial⟩ hc ?_
              exact ab_wr 3 rfl ⟨trivial, trivial, trivial⟩ h
            · have h := h.2 c
              refine ab_wi (fun c => ?_) (fun c => ?_)
              · have h := h.1 c
                exact ab_wr 3 rfl ⟨trivial, trivial, trivial⟩ h
              · have h := h.2 c
                refine ab_wi (fun c => ?_) (fun c => ?_)
                · have h := h.1 c
                  obtain ⟨r11, mi9, ml10, hc, h⟩ := h
                  refine ab_wc 2 (c := 238) (as := [.ref 40]) (pc := 143) (ll := [some (.ref 40), some (.int x1), some (.int 0), none]) (st := []) (c1 := 0) (s1 := 0) (g := (ab_G (ab_ui mi1 40 0 1) ml2)) rfl ⟨trivial, trivial⟩ hc ?_
                  exact ab_wr 1 rfl trivial h
                · have h := h.2 c
                  refine ab_wi (fun c => ?_) (fun c => ?_)
                  · have h := h.1 c
                    exact ab_wr 3 rfl ⟨trivial, trivial, trivial⟩ h
                  · have h := h.2 c
                    refine ab_wi (fun c => ?_) (fun c => ?_)
                    · have h := h.1 c
                      exact ab_wk 2 (f' := (151, [some (.ref 40), some (.int x1), some (.int 0), some (.int 0)], [], 0, 0, (ab_G (ab_ui mi1 40 0 1) ml2))) rfl ⟨trivial, trivial, trivial⟩ h
                    · have h := h.2 c
                      refine ab_wi (fun c => ?_) (fun c => ?_)
                      · have h := h.1 c
                        exact ab_wr 3 rfl ⟨trivial, trivial, trivial⟩ h
                      · have h := h.2 c
                        exact ab_wr 2 rfl ⟨trivial, trivial⟩ h
  · have h := h.2 c
    refine ab_wk 7 (f' := (ab_sw x1 [(0, 76), (1, 81), (2, 86), (3, 91), (4, 125), (5, 134), (6, 139), (7, 144), (8, 149), (9, 184)] 189, [some (.ref 40), some (.int x1), some (.int 0), none], [], 0, 0, (ab_G (ab_ui mi1 40 0 0) ml2))) rfl ⟨trivial, trivial, trivial, trivial, trivial, trivial, trivial, trivial⟩ ?_
    refine ab_wi (fun c => ?_) (fun c => ?_)
    · have h := h.1 c
      exact ab_wr 3 rfl ⟨trivial, trivial, trivial⟩ h
    · have h := h.2 c
      refine ab_wi (fun c => ?_) (fun c => ?_)
      · have h := h.1 c
        obtain ⟨r14, mi12, ml13, hc, h⟩ := h
        refine ab_wc 2 (c := 181) (as := [.ref 40]) (pc := 85) (ll := [some (.ref 40), some (.int x1), some (.int 0), none]) (st := []) (c1 := 0) (s1 := 0) (g := (ab_G (ab_ui mi1 40 0 0) ml2)) rfl ⟨trivial, trivial⟩ hc ?_
        exact ab_wr 1 rfl trivial h
      · have h := h.2 c
        refine ab_wi (fun c => ?_) (fun c => ?_)
        · have h := h.1 c
          exact ab_wr 3 rfl ⟨trivial, trivial, trivial⟩ h
        · have h := h.2 c
          refine ab_wi (fun c => ?_) (fun c => ?_)
          · have h := h.1 c
            exact ab_wk 2 (f' := (93, [some (.ref 40), some (.int x1), some (.int 0), some (.int 0)], [], 0, 0, (ab_G (ab_ui mi1 40 0 0) ml2))) rfl ⟨trivial, trivial, trivial⟩ h
          · have h := h.2 c
            refine ab_wi (fun c => ?_) (fun c => ?_)
            · have h := h.1 c
              obtain ⟨mi15, ml16, hc, h⟩ := h
              refine ab_wc 2 (c := 198) (as := [.ref 40]) (pc := 129) (ll := [some (.ref 40), some (.int x1), some (.int 0), none]) (st := []) (c1 := 0) (s1 := 0) (g := (ab_G (ab_ui mi1 40 0 0) ml2)) rfl ⟨trivial, trivial⟩ hc ?_
              exact ab_wr 3 rfl ⟨trivial, trivial, trivial⟩ h
            · have h := h.2 c
              refine ab_wi (fun c => ?_) (fun c => ?_)
              · have h := h.1 c
                exact ab_wr 3 rfl ⟨trivial, trivial, trivial⟩ h
              · have h := h.2 c
                refine ab_wi (fun c => ?_) (fun c => ?_)
                · have h := h.1 c
                  obtain ⟨r19, mi17, ml18, hc, h⟩ := h
                  refine ab_wc 2 (c := 238) (as := [.ref 40]) (pc := 143) (ll := [some (.ref 40), some (.int x1), some (.int 0), none]) (st := []) (c1 := 0) (s1 := 0) (g := (ab_G (ab_ui mi1 40 0 0) ml2)) rfl ⟨trivial, trivial⟩ hc ?_
                  exact ab_wr 1 rfl trivial h
                · have h := h.2 c
                  refine ab_wi (fun c => ?_) (fun c => ?_)
                  · have h := h.1 c
                    exact ab_wr 3 rfl ⟨trivial, trivial, trivial⟩ h
                  · have h := h.2 c
                    refine ab_wi (fun c => ?_) (fun c => ?_)
                    · have h := h.1 c
                      exact ab_wk 2 (f' := (151, [some (.ref 40), some (.int x1), some (.int 0), some (.int 0)], [], 0, 0, (ab_G (ab_ui mi1 40 0 0) ml2))) rfl ⟨trivial, trivial, trivial⟩ h
                    · have h := h.2 c
                      refine ab_wi (fun c => ?_) (fun c => ?_)
                      · have h := h.1 c
                        exact ab_wr 3 rfl ⟨trivial, trivial, trivial⟩ h
                      · have h := h.2 c
                        exact ab_wr 2 rfl ⟨trivial, trivial⟩ h
theorem vc_X12_count_151 {call : Nat → List Value → ab_S → Option Value → ab_S → Prop} {ro : ab_E} {Q : Option Value → ab_S → Prop} (y1 : Int32) (y2 : Int32) (y3 : Int32) (mi : Nat → Nat → Int32) (ml : Nat → Nat → Int64)
    (h : ((y3 < (mi 40 20)) → (vp_in y3 30 ∧ ((((mi 59 (y3).toNatClampNeg) < 0) → (ab_W call ro 0 0 (ab_lk2 pl_X12_count) Q (151, [some (.ref 40), some (.int y1), some (.int (y2 + 0)), some (.int (y3 + 1))], [], 0, 0, (ab_G mi ml)))) ∧ (¬ ((mi 59 (y3).toNatClampNeg) < 0) → (ab_W call ro 0 0 (ab_lk2 pl_X12_count) Q (151, [some (.ref 40), some (.int y1), some (.int (y2 + 1)), some (.int (y3 + 1))], [], 0, 0, (ab_G mi ml))))))) ∧ (¬ (y3 < (mi 40 20)) → (Q (some (.int y2)) (ab_G mi ml)))) :
    ab_W call ro 0 0 (ab_lk2 pl_X12_count) Q (151, [some (.ref 40), some (.int y1), some (.int y2), some (.int y3)], [], 0, 0, ab_G mi ml) := by
  refine ab_wk 4 (f' := (if y3 < (mi 40 20) then 159 else 182, [some (.ref 40), some (.int y1), some (.int y2), some (.int y3)], [], 0, 0, (ab_G mi ml))) rfl ⟨trivial, trivial, trivial, trivial, trivial⟩ ?_
  refine ab_wi (fun c => ?_) (fun c => ?_)
  · have h := h.1 c
    obtain ⟨p0, h⟩ := h
    refine ab_wk 6 (f' := (if (mi 59 (y3).toNatClampNeg) < 0 then 173 else 169, [some (.ref 40), some (.int y1), some (.int y2), some (.int y3)], [.int y2], 0, 0, (ab_G mi ml))) rfl ⟨trivial, trivial, trivial, trivial, p0, trivial, trivial⟩ ?_
    refine ab_wi (fun c => ?_) (fun c => ?_)
    · have h := h.1 c
      exact ab_wk 5 (f' := (151, [some (.ref 40), some (.int y1), some (.int (y2 + 0)), some (.int (y3 + 1))], [], 0, 0, (ab_G mi ml))) rfl ⟨trivial, trivial, trivial, trivial, trivial, trivial⟩ h
    · have h := h.2 c
      exact ab_wk 6 (f' := (151, [some (.ref 40), some (.int y1), some (.int (y2 + 1)), some (.int (y3 + 1))], [], 0, 0, (ab_G mi ml))) rfl ⟨trivial, trivial, trivial, trivial, trivial, trivial, trivial⟩ h
  · have h := h.2 c
    exact ab_wr 2 rfl ⟨trivial, trivial⟩ h
theorem vc_X12_count_93 {call : Nat → List Value → ab_S → Option Value → ab_S → Prop} {ro : ab_E} {Q : Option Value → ab_S → Prop} (y1 : Int32) (y2 : Int32) (y3 : Int32) (mi : Nat → Nat → Int32) (ml : Nat → Nat → Int64)
    (h : ((y3 < (mi 40 20)) → (∃ (r22 : Int32) (mi20 : Nat → Nat → Int32) (ml21 : Nat → Nat → Int64), call 183 [.ref 40, .int y3] (ab_G mi ml) (some (.int r22)) (ab_G mi20 ml21) ∧ (((r22 = 0) → (ab_W call ro 0 0 (ab_lk2 pl_X12_count) Q (93, [some (.ref 40), some (.int y1), some (.int (y2 + 0)), some (.int (y3 + 1))], [], 0, 0, (ab_G mi20 ml21)))) ∧ (¬ (r22 = 0) → (ab_W call ro 0 0 (ab_lk2 pl_X12_count) Q (93, [some (.ref 40), some (.int y1), some (.int (y2 + 1)), some (.int (y3 + 1))], [], 0, 0, (ab_G mi20 ml21))))))) ∧ (¬ (y3 < (mi 40 20)) → (Q (some (.int y2)) (ab_G mi ml)))) :
    ab_W call ro 0 0 (ab_lk2 pl_X12_count) Q (93, [some (.ref 40), some (.int y1), some (.int y2), some (.int y3)], [], 0, 0, ab_G mi ml) := by
  refine ab_wk 4 (f' := (if y3 < (mi 40 20) then 101 else 123, [some (.ref 40), some (.int y1), some (.int y2), some (.int y3)], [], 0, 0, (ab_G mi ml))) rfl ⟨trivial, trivial, trivial, trivial, trivial⟩ ?_
  refine ab_wi (fun c => ?_) (fun c => ?_)
  · have h := h.1 c
    obtain ⟨r22, mi20, ml21, hc, h⟩ := h
    refine ab_wc 4 (c := 183) (as := [.ref 40, .int y3]) (pc := 107) (ll := [some (.ref 40), some (.int y1), some (.int y2), some (.int y3)]) (st := [.int y2]) (c1 := 0) (s1 := 0) (g := (ab_G mi ml)) rfl ⟨trivial, trivial, trivial, trivial⟩ hc ?_
    refine ab_wk 1 (f' := (if r22 = 0 then 114 else 110, [some (.ref 40), some (.int y1), some (.int y2), some (.int y3)], [.int y2], 0, 0, (ab_G mi20 ml21))) rfl ⟨trivial, trivial⟩ ?_
    refine ab_wi (fun c => ?_) (fun c => ?_)
    · have h := h.1 c
      exact ab_wk 5 (f' := (93, [some (.ref 40), some (.int y1), some (.int (y2 + 0)), some (.int (y3 + 1))], [], 0, 0, (ab_G mi20 ml21))) rfl ⟨trivial, trivial, trivial, trivial, trivial, trivial⟩ h
    · have h := h.2 c
      exact ab_wk 6 (f' := (93, [some (.ref 40), some (.int y1), some (.int (y2 + 1)), some (.int (y3 + 1))], [], 0, 0, (ab_G mi20 ml21))) rfl ⟨trivial, trivial, trivial, trivial, trivial, trivial, trivial⟩ h
  · have h := h.2 c
    exact ab_wr 2 rfl ⟨trivial, trivial⟩ h
