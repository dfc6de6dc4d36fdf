theorem vc_X7_readLaw_0 {call : Nat → List Value → ab_S → Option Value → ab_S → Prop} {ro : ab_E} {Q : Option Value → ab_S → Prop}  (mi : Nat → Nat → Int32) (ml : Nat → Nat → Int64)
    (h : ∃ (mi1 : Nat → Nat → Int32) (ml2 : Nat → Nat → Int64), call 65 [.ref 5] (ab_G mi ml) none (ab_G mi1 ml2) ∧ (ab_W call ro 0 0 (ab_lk2 pl_X7_readLaw) Q (11, [some (.ref 5), some (.int 0)], [], 0, 0, (ab_G (ab_ui mi1 5 10 0) ml2)))) :
    ab_W call ro 0 0 (ab_lk2 pl_X7_readLaw) Q (0, [some (.ref 5), none], [], 0, 0, ab_G mi ml) := by
  obtain ⟨mi1, ml2, hc, h⟩ := h
  refine ab_wc 2 (c := 65) (as := [.ref 5]) (pc := 4) (ll := [some (.ref 5), none]) (st := []) (c1 := 0) (s1 := 0) (g := (ab_G mi ml)) rfl ⟨trivial, trivial⟩ hc ?_
  exact ab_wk 5 (f' := (11, [some (.ref 5), some (.int 0)], [], 0, 0, (ab_G (ab_ui mi1 5 10 0) ml2))) rfl ⟨trivial, trivial, trivial, trivial, trivial, trivial⟩ h
theorem vc_X7_readLaw_11 {call : Nat → List Value → ab_S → Option Value → ab_S → Prop} {ro : ab_E} {Q : Option Value → ab_S → Prop} (y1 : Int32) (mi : Nat → Nat → Int32) (ml : Nat → Nat → Int64)
    (h : ((y1 < 1000) → ((((mi 5 1) = 0) → ((((mi 2 3) = 0) → (Q (some (.int (mi 5 1))) (ab_G mi ml))) ∧ (¬ ((mi 2 3) = 0) → ((((mi 5 10) < 12) → (∃ (mi3 : Nat → Nat → Int32) (ml4 : Nat → Nat → Int64), call 72 [.ref 5] (ab_G mi ml) none (ab_G mi3 ml4) ∧ (vp_in (mi3 5 10) 12 ∧ (vp_in (mi3 5 10) 12 ∧ (vp_in (mi3 5 10) 12 ∧ (ab_W call ro 0 0 (ab_lk2 pl_X7_readLaw) Q (11, [some (.ref 5), some (.int (y1 + 1))], [], 0, 0, (ab_G (ab_ui (ab_ui mi3 8 ((mi3 5 10)).toNatClampNeg (vp_nar .boolean (mi3 5 4))) 5 10 ((mi3 5 10) + 1)) (ab_ul (ab_ul ml4 6 ((mi3 5 10)).toNatClampNeg (ml4 5 2)) 7 ((mi3 5 10)).toNatClampNeg (ml4 5 3)))))))))) ∧ (¬ ((mi 5 10) < 12) → (∃ (r7 : Int32) (mi5 : Nat → Nat → Int32) (ml6 : Nat → Nat → Int64), call 86 [.ref 2, .ref 1000000] (ab_G mi ml) (some (.int r7)) (ab_G mi5 ml6) ∧ (((r7 = 0) → (∃ (r10 : Int32) (mi8 : Nat → Nat → Int32) (ml9 : Nat → Nat → Int64), call 86 [.ref 2, .ref 1000001] (ab_G mi5 ml6) (some (.int r10)) (ab_G mi8 ml9) ∧ (((r10 = 0) → (∃ (mi11 : Nat → Nat → Int32) (ml12 : Nat → Nat → Int64), call 67 [.ref 5, .int 1] (ab_G mi8 ml9) none (ab_G mi11 ml12) ∧ (ab_W call ro 0 0 (ab_lk2 pl_X7_readLaw) Q (11, [some (.ref 5), some (.int (y1 + 1))], [], 0, 0, (ab_G mi11 ml12))))) ∧ (¬ (r10 = 0) → (∃ (mi13 : Nat → Nat → Int32) (ml14 : Nat → Nat → Int64), call 67 [.ref 5, .int 5] (ab_G mi8 ml9) none (ab_G mi13 ml14) ∧ (ab_W call ro 0 0 (ab_lk2 pl_X7_readLaw) Q (11, [some (.ref 5), some (.int (y1 + 1))], [], 0, 0, (ab_G mi13 ml14)))))))) ∧ (¬ (r7 = 0) → (∃ (mi15 : Nat → Nat → Int32) (ml16 : Nat → Nat → Int64), call 67 [.ref 5, .int 5] (ab_G mi5 ml6) none (ab_G mi15 ml16) ∧ (ab_W call ro 0 0 (ab_lk2 pl_X7_readLaw) Q (11, [some (.ref 5), some (.int (y1 + 1))], [], 0, 0, (ab_G mi15 ml16)))))))))))) ∧ (¬ ((mi 5 1) = 0) → (Q (some (.int (mi 5 1))) (ab_G mi ml))))) ∧ (¬ (y1 < 1000) → (Q (some (.int (mi 5 1))) (ab_G mi ml)))) :
    ab_W call ro 0 0 (ab_lk2 pl_X7_readLaw) Q (11, [some (.ref 5), some (.int y1)], [], 0, 0, ab_G mi ml) := by
  refine ab_wk 3 (f' := (if y1 < 1000 then 18 else 139, [some (.ref 5), some (.int y1)], [], 0, 0, (ab_G mi ml))) rfl ⟨trivial, trivial, trivial, trivial⟩ ?_
  refine ab_wi (fun c => ?_) (fun c => ?_)
  · have h := h.1 c
    refine ab_wk 3 (f' := (if (mi 5 1) = 0 then 25 else 139, [some (.ref 5), some (.int y1)], [], 0, 0, (ab_G mi ml))) rfl ⟨trivial, trivial, trivial, trivial⟩ ?_
    refine ab_wi (fun c => ?_) (fun c => ?_)
    · have h := h.1 c
      refine ab_wk 4 (f' := (if (mi 2 3) = 0 then 139 else 35, [some (.ref 5), some (.int y1)], [], 0, 0, (ab_G mi ml))) rfl ⟨trivial, trivial, trivial, trivial, trivial⟩ ?_
      refine ab_wi (fun c => ?_) (fun c => ?_)
      · have h := h.1 c
        exact ab_wr 3 rfl ⟨trivial, trivial, trivial⟩ h
      · have h := h.2 c
        refine ab_wk 4 (f' := (if (mi 5 10) < 12 then 44 else 100, [some (.ref 5), some (.int y1)], [], 0, 0, (ab_G mi ml))) rfl ⟨trivial, trivial, trivial, trivial, trivial⟩ ?_
        refine ab_wi (fun c => ?_) (fun c => ?_)
        · have h := h.1 c
          obtain ⟨mi3, ml4, hc, h⟩ := h
          refine ab_wc 2 (c := 72) (as := [.ref 5]) (pc := 48) (ll := [some (.ref 5), some (.int y1)]) (st := []) (c1 := 0) (s1 := 0) (g := (ab_G mi ml)) rfl ⟨trivial, trivial⟩ hc ?_
          obtain ⟨p0, p1, p2, h⟩ := h
          exact ab_wk 30 (f' := (11, [some (.ref 5), some (.int (y1 + 1))], [], 0, 0, (ab_G (ab_ui (ab_ui mi3 8 ((mi3 5 10)).toNatClampNeg (vp_nar .boolean (mi3 5 4))) 5 10 ((mi3 5 10) + 1)) (ab_ul (ab_ul ml4 6 ((mi3 5 10)).toNatClampNeg (ml4 5 2)) 7 ((mi3 5 10)).toNatClampNeg (ml4 5 3))))) rfl ⟨trivial, trivial, trivial, trivial, trivial, trivial, p0, trivial, trivial, trivial, trivial, trivial, trivial, p1, trivial, trivial, trivial, trivial, trivial, trivial, p2, trivial, trivial, trivial, trivial, trivial, trivial, trivial, trivial, trivial, trivial⟩ h
        · have h := h.2 c
          obtain ⟨r7, mi5, ml6, hc, h⟩ := h
          refine ab_wc 5 (c := 86) (as := [.ref 2, .ref 1000000]) (pc := 110) (ll := [some (.ref 5), some (.int y1)]) (st := [.ref 5]) (c1 := 0) (s1 := 0) (g := (ab_G mi ml)) rfl ⟨trivial, trivial, trivial, trivial, trivial⟩ hc ?_
          refine ab_wk 1 (f' := (if r7 = 0 then 113 else 125, [some (.ref 5), some (.int y1)], [.ref 5], 0, 0, (ab_G mi5 ml6))) rfl ⟨trivial, trivial⟩ ?_
          refine ab_wi (fun c => ?_) (fun c => ?_)
          · have h := h.1 c
            obtain ⟨r10, mi8, ml9, hc, h⟩ := h
            refine ab_wc 4 (c := 86) (as := [.ref 2, .ref 1000001]) (pc := 122) (ll := [some (.ref 5), some (.int y1)]) (st := [.ref 5]) (c1 := 0) (s1 := 0) (g := (ab_G mi5 ml6)) rfl ⟨trivial, trivial, trivial, trivial⟩ hc ?_
            refine ab_wk 1 (f' := (if r10 = 0 then 129 else 125, [some (.ref 5), some (.int y1)], [.ref 5], 0, 0, (ab_G mi8 ml9))) rfl ⟨trivial, trivial⟩ ?_
            refine ab_wi (fun c => ?_) (fun c => ?_)
            · have h := h.1 c
              obtain ⟨mi11, ml12, hc, h⟩ := h
              refine ab_wc 2 (c := 67) (as := [.ref 5, .int 1]) (pc := 133) (ll := [some (.ref 5), some (.int y1)]) (st := []) (c1 := 0) (s1 := 0) (g := (ab_G mi8 ml9)) rfl ⟨trivial, trivial⟩ hc ?_
              exact ab_wk 2 (f' := (11, [some (.ref 5), some (.int (y1 + 1))], [], 0, 0, (ab_G mi11 ml12))) rfl ⟨trivial, trivial, trivial⟩ h
            · have h := h.2 c
              obtain ⟨mi13, ml14, hc, h⟩ := h
              refine ab_wc 3 (c := 67) (as := [.ref 5, .int 5]) (pc := 133) (ll := [some (.ref 5), some (.int y1)]) (st := []) (c1 := 0) (s1 := 0) (g := (ab_G mi8 ml9)) rfl ⟨trivial, trivial, trivial⟩ hc ?_
              exact ab_wk 2 (f' := (11, [some (.ref 5), some (.int (y1 + 1))], [], 0, 0, (ab_G mi13 ml14))) rfl ⟨trivial, trivial, trivial⟩ h
          · have h := h.2 c
            obtain ⟨mi15, ml16, hc, h⟩ := h
            refine ab_wc 3 (c := 67) (as := [.ref 5, .int 5]) (pc := 133) (ll := [some (.ref 5), some (.int y1)]) (st := []) (c1 := 0) (s1 := 0) (g := (ab_G mi5 ml6)) rfl ⟨trivial, trivial, trivial⟩ hc ?_
            exact ab_wk 2 (f' := (11, [some (.ref 5), some (.int (y1 + 1))], [], 0, 0, (ab_G mi15 ml16))) rfl ⟨trivial, trivial, trivial⟩ h
    · have h := h.2 c
      exact ab_wr 3 rfl ⟨trivial, trivial, trivial⟩ h
  · have h := h.2 c
    exact ab_wr 3 rfl ⟨trivial, trivial, trivial⟩ h
theorem vc_X7_readWish_0 {call : Nat → List Value → ab_S → Option Value → ab_S → Prop} {ro : ab_E} {Q : Option Value → ab_S → Prop} (x1 : Int32) (mi : Nat → Nat → Int32) (ml : Nat → Nat → Int64)
    (h : ∃ (mi1 : Nat → Nat → Int32) (ml2 : Nat → Nat → Int64), call 65 [.ref 5] (ab_G mi ml) none (ab_G mi1 ml2) ∧ (∃ (r5 : Int32) (mi3 : Nat → Nat → Int32) (ml4 : Nat → Nat → Int64), call 68 [.ref 5] (ab_G mi1 ml2) (some (.int r5)) (ab_G mi3 ml4) ∧ (((r5 = (-1)) → (∃ (mi6 : Nat → Nat → Int32) (ml7 : Nat → Nat → Int64), call 67 [.ref 5, .int 1] (ab_G (ab_ui (ab_ui mi3 5 5 r5) 5 6 (-1)) ml4) none (ab_G mi6 ml7) ∧ (Q (some (.int (mi6 5 1))) (ab_G mi6 ml7)))) ∧ (¬ (r5 = (-1)) → (∃ (mi8 : Nat → Nat → Int32) (ml9 : Nat → Nat → Int64), call 85 [.ref 2] (ab_G (ab_ui (ab_ui mi3 5 5 r5) 5 6 (-1)) ml4) none (ab_G mi8 ml9) ∧ ((((mi8 5 5) = 3) → ((((mi8 5 5) = 2) → (∃ (mi10 : Nat → Nat → Int32) (ml11 : Nat → Nat → Int64), call 69 [.ref 5, .ref 1000002] (ab_G mi8 ml9) none (ab_G mi10 ml11) ∧ ((((mi10 5 5) = 2) → (∃ (mi12 : Nat → Nat → Int32) (ml13 : Nat → Nat → Int64), call 72 [.ref 5] (ab_G mi10 ml11) none (ab_G mi12 ml13) ∧ (∃ (mi14 : Nat → Nat → Int32) (ml15 : Nat → Nat → Int64), call 66 [.ref 5] (ab_G mi12 ml13) none (ab_G mi14 ml15) ∧ (Q (some (.int (mi14 5 1))) (ab_G mi14 ml15))))) ∧ (¬ ((mi10 5 5) = 2) → ((((mi10 5 5) = 3) → (∃ (mi16 : Nat → Nat → Int32) (ml17 : Nat → Nat → Int64), call 72 [.ref 5] (ab_G mi10 ml11) none (ab_G mi16 ml17) ∧ (∃ (mi18 : Nat → Nat → Int32) (ml19 : Nat → Nat → Int64), call 66 [.ref 5] (ab_G mi16 ml17) none (ab_G mi18 ml19) ∧ (Q (some (.int (mi18 5 1))) (ab_G mi18 ml19))))) ∧ (¬ ((mi10 5 5) = 3) → (∃ (mi20 : Nat → Nat → Int32) (ml21 : Nat → Nat → Int64), call 70 [.ref 5, .int 6] (ab_G mi10 ml11) none (ab_G mi20 ml21) ∧ (∃ (mi22 : Nat → Nat → Int32) (ml23 : Nat → Nat → Int64), call 66 [.ref 5] (ab_G mi20 ml21) none (ab_G mi22 ml23) ∧ (Q (some (.int (mi22 5 1))) (ab_G mi22 ml23)))))))))) ∧ (¬ ((mi8 5 5) = 2) → ((((mi8 5 5) = 2) → (∃ (mi24 : Nat → Nat → Int32) (ml25 : Nat → Nat → Int64), call 72 [.ref 5] (ab_G mi8 ml9) none (ab_G mi24 ml25) ∧ (∃ (mi26 : Nat → Nat → Int32) (ml27 : Nat → Nat → Int64), call 66 [.ref 5] (ab_G mi24 ml25) none (ab_G mi26 ml27) ∧ (Q (some (.int (mi26 5 1))) (ab_G mi26 ml27))))) ∧ (¬ ((mi8 5 5) = 2) → ((((mi8 5 5) = 3) → (∃ (mi28 : Nat → Nat → Int32) (ml29 : Nat → Nat → Int64), call 72 [.ref 5] (ab_G mi8 ml9) none (ab_G mi28 ml29) ∧ (∃ (mi30 : Nat → Nat → Int32) (ml31 : Nat → Nat → Int64), call 66 [.ref 5] (ab_G mi28 ml29) none (ab_G mi30 ml31) ∧ (Q (some (.int (mi30 5 1))) (ab_G mi30 ml31))))) ∧ (¬ ((mi8 5 5) = 3) → (∃ (mi32 : Nat → Nat → Int32) (ml33 : Nat → Nat → Int64), call 70 [.ref 5, .int 6] (ab_G mi8 ml9) none (ab_G mi32 ml33) ∧ (∃ (mi34 : Nat → Nat → Int32) (ml35 : Nat → Nat → Int64), call 66 [.ref 5] (ab_G mi32 ml33) none (ab_G mi34 ml35) ∧ (Q (some (.int (mi34 5 1))) (ab_G mi34 ml35))))))))))) ∧ (¬ ((mi8 5 5) = 3) → (∃ (r38 : Int32) (mi36 : Nat → Nat → Int32) (ml37 : Nat → Nat → Int64), call 71 [.ref 5, .int x1] (ab_G mi8 ml9) (some (.int r38)) (ab_G mi36 ml37) ∧ ((((mi36 5 5) = 2) → (∃ (mi39 : Nat → Nat → Int32) (ml40 : Nat → Nat → Int64), call 69 [.ref 5, .ref 1000002] (ab_G (ab_ui mi36 5 6 r38) ml37) none (ab_G mi39 ml40) ∧ ((((mi39 5 5) = 2) → (∃ (mi41 : Nat → Nat → Int32) (ml42 : Nat → Nat → Int64), call 72 [.ref 5] (ab_G mi39 ml40) none (ab_G mi41 ml42) ∧ (∃ (mi43 : Nat → Nat → Int32) (ml44 : Nat → Nat → Int64), call 66 [.ref 5] (ab_G mi41 ml42) none (ab_G mi43 ml44) ∧ (Q (some (.int (mi43 5 1))) (ab_G mi43 ml44))))) ∧ (¬ ((mi39 5 5) = 2) → ((((mi39 5 5) = 3) → (∃ (mi45 : Nat → Nat → Int32) (ml46 : Nat → Nat → Int64), call 72 [.ref 5] (ab_G mi39 ml40) none (ab_G mi45 ml46) ∧ (∃ (mi47 : Nat → Nat → Int32) (ml48 : Nat → Nat → Int64), call 66 [.ref 5] (ab_G mi45 ml46) none (ab_G mi47 ml48) ∧ (Q (some (.int (mi47 5 1))) (ab_G mi47 ml48))))) ∧ (¬ ((mi39 5 5) = 3) → (∃ (mi49 : Nat → Nat → Int32) (ml50 : Nat → Nat → Int64), call 70 [.ref 5, .int 6] (ab_G mi39 ml40) none (ab_G mi49 ml50) ∧ (∃ (mi51 : Nat → Nat → Int32) (ml52 : Nat → Nat → Int64), call 66 [.ref 5] (ab_G mi49 ml50) none (ab_G mi51 ml52) ∧ (Q (some (.int (mi51 5 1))) (ab_G mi51 ml52)))))))))) ∧ (¬ ((mi36 5 5) = 2) → ((((mi36 5 5) = 2) → (∃ (mi53 : Nat → Nat → Int32) (ml54 : Nat → Nat → Int64), call 72 [.ref 5] (ab_G (ab_ui mi36 5 6 r38) ml37) none (ab_G mi53 ml54) ∧ (∃ (mi55 : Nat → Nat → Int32) (ml56 : Nat → Nat → Int64), call 66 [.ref 5] (ab_G mi53 ml54) none (ab_G mi55 ml56) ∧ (Q (some (.int (mi55 5 1))) (ab_G mi55 ml56))))) ∧ (¬ ((mi36 5 5) = 2) → ((((mi36 5 5) = 3) → (∃ (mi57 : Nat → Nat → Int32) (ml58 : Nat → Nat → Int64), call 72 [.ref 5] (ab_G (ab_ui mi36 5 6 r38) ml37) none (ab_G mi57 ml58) ∧ (∃ (mi59 : Nat → Nat → Int32) (ml60 : Nat → Nat → Int64), call 66 [.ref 5] (ab_G mi57 ml58) none (ab_G mi59 ml60) ∧ (Q (some (.int (mi59 5 1))) (ab_G mi59 ml60))))) ∧ (¬ ((mi36 5 5) = 3) → (∃ (mi61 : Nat → Nat → Int32) (ml62 : Nat → Nat → Int64), call 70 [.ref 5, .int 6] (ab_G (ab_ui mi36 5 6 r38) ml37) none (ab_G mi61 ml62) ∧ (∃ (mi63 : Nat → Nat → Int32) (ml64 : Nat → Nat → Int64), call 66 [.ref 5] (ab_G mi61 ml62) none (ab_G mi63 ml64) ∧ (Q (some (.int (mi63 5 1))) (ab_G mi63 ml64)))))))))))))))))) :
    ab_W call ro 0 0 (ab_lk2 pl_X7_readWish) Q (0, [some (.ref 5), some (.int x1)], [], 0, 0, ab_G mi ml) := by
  obtain ⟨mi1, ml2, hc, h⟩ := h
  refine ab_wc 2 (c := 65) (as := [.ref 5]) (pc := 4) (ll := [some (.ref 5), some (.int x1)]) (st := []) (c1 := 0) (s1 := 0) (g := (ab_G mi ml)) rfl ⟨trivial, trivial⟩ hc ?_
  obtain ⟨r5, mi3, ml4, hc, h⟩ := h
  refine ab_wc 3 (c := 68) (as := [.ref 5]) (pc := 9) (ll := [some (.ref 5), some (.int x1)]) (st := [.ref 5]) (c1 := 0) (s1 := 0) (g := (ab_G mi1 ml2)) rfl ⟨trivial, trivial, trivial⟩ hc ?_
  refine ab_wk 8 (f' := (if r5 = (-1) then 25 else 35, [some (.ref 5), some (.int x1)], [], 0, 0, (ab_G (ab_ui (ab_ui mi3 5 5 r5) 5 6 (-1)) ml4))) rfl ⟨trivial, trivial, trivial, trivial, trivial, trivial, trivial, trivial, trivial⟩ ?_
  refine ab_wi (fun c => ?_) (fun c => ?_)
  · have h := h.1 c
    obtain ⟨mi6, ml7, hc, h⟩ := h
    refine ab_wc 3 (c := 67) (as := [.ref 5, .int 1]) (pc := 30) (ll := [some (.ref 5), some (.int x1)]) (st := []) (c1 := 0) (s1 := 0) (g := (ab_G (ab_ui (ab_ui mi3 5 5 r5) 5 6 (-1)) ml4)) rfl ⟨trivial, trivial, trivial⟩ hc ?_
    exact ab_wr 3 rfl ⟨trivial, trivial, trivial⟩ h
  · have h := h.2 c
    obtain ⟨mi8, ml9, hc, h⟩ := h
    refine ab_wc 3 (c := 85) (as := [.ref 2]) (pc := 42) (ll := [some (.ref 5), some (.int x1)]) (st := []) (c1 := 0) (s1 := 0) (g := (ab_G (ab_ui (ab_ui mi3 5 5 r5) 5 6 (-1)) ml4)) rfl ⟨trivial, trivial, trivial⟩ hc ?_
    refine ab_wk 4 (f' := (if (mi8 5 5) = 3 then 59 else 50, [some (.ref 5), some (.int x1)], [], 0, 0, (ab_G mi8 ml9))) rfl ⟨trivial, trivial, trivial, trivial, trivial⟩ ?_
    refine ab_wi (fun c => ?_) (fun c => ?_)
    · have h := h.1 c
      refine ab_wk 4 (f' := (if (mi8 5 5) = 2 then 67 else 73, [some (.ref 5), some (.int x1)], [], 0, 0, (ab_G mi8 ml9))) rfl ⟨trivial, trivial, trivial, trivial, trivial⟩ ?_
      refine ab_wi (fun c => ?_) (fun c => ?_)
      · have h := h.1 c
        obtain ⟨mi10, ml11, hc, h⟩ := h
        refine ab_wc 3 (c := 69) (as := [.ref 5, .ref 1000002]) (pc := 73) (ll := [some (.ref 5), some (.int x1)]) (st := []) (c1 := 0) (s1 := 0) (g := (ab_G mi8 ml9)) rfl ⟨trivial, trivial, trivial⟩ hc ?_
        refine ab_wk 4 (f' := (if (mi10 5 5) = 2 then 89 else 81, [some (.ref 5), some (.int x1)], [], 0, 0, (ab_G mi10 ml11))) rfl ⟨trivial, trivial, trivial, trivial, trivial⟩ ?_
        refine ab_wi (fun c => ?_) (fun c => ?_)
        · have h := h.1 c
          obtain ⟨mi12, ml13, hc, h⟩ := h
          refine ab_wc 2 (c := 72) (as := [.ref 5]) (pc := 93) (ll := [some (.ref 5), some (.int x1)]) (st := []) (c1 := 0) (s1 := 0) (g := (ab_G mi10 ml11)) rfl ⟨trivial, trivial⟩ hc ?_
          obtain ⟨mi14, ml15, hc, h⟩ := h
          refine ab_wc 3 (c := 66) (as := [.ref 5]) (pc := 106) (ll := [some (.ref 5), some (.int x1)]) (st := []) (c1 := 0) (s1 := 0) (g := (ab_G mi12 ml13)) rfl ⟨trivial, trivial, trivial⟩ hc ?_
          exact ab_wr 3 rfl ⟨trivial, trivial, trivial⟩ h
        · have h := h.2 c
          refine ab_wk 4 (f' := (if (mi10 5 5) = 3 then 89 else 96, [some (.ref 5), some (.int x1)], [], 0, 0, (ab_G mi10 ml11))) rfl ⟨trivial, trivial, trivial, trivial, trivial⟩ ?_
          refine ab_wi (fun c => ?_) (fun c => ?_)
          · have h := h.1 c
            obtain ⟨mi16, ml17, hc, h⟩ := h
            refine ab_wc 2 (c := 72) (as := [.ref 5]) (pc := 93) (ll := [some (.ref 5), some (.int x1)]) (st := []) (c1 := 0) (s1 := 0) (g := (ab_G mi10 ml11)) rfl ⟨trivial, trivial⟩ hc ?_
            obtain ⟨mi18, ml19, hc, h⟩ := h
            refine ab_wc 3 (c := 66) (as := [.ref 5]) (pc := 106) (ll := [some (.ref 5), some (.int x1)]) (st := []) (c1 := 0) (s1 := 0) (g := (ab_G mi16 ml17)) rfl ⟨trivial, trivial, trivial⟩ hc ?_
            exact ab_wr 3 rfl ⟨trivial, trivial, trivial⟩ h
          · have h := h.2 c
            obtain ⟨mi20, ml21, hc, h⟩ := h
            refine ab_wc 3 (c := 70) (as := [.ref 5, .int 6]) (pc := 102) (ll := [some (.ref 5), some (.int x1)]) (st := []) (c1 := 0) (s1 := 0) (g := (ab_G mi10 ml11)) rfl ⟨trivial, trivial, trivial⟩ hc ?_
            obtain ⟨mi22, ml23, hc, h⟩ := h
            refine ab_wc 2 (c := 66) (as := [.ref 5]) (pc := 106) (ll := [some (.ref 5), some (.int x1)]) (st := []) (c1 := 0) (s1 := 0) (g := (ab_G mi20 ml21)) rfl ⟨trivial, trivial⟩ hc ?_
            exact ab_wr 3 rfl ⟨trivial, trivial, trivial⟩ h
      · have h := h.2 c
        refine ab_wk 4 (f' := (if (mi8 5 5) = 2 then 89 else 81, [some (.ref 5), some (.int x1)], [], 0, 0, (ab_G mi8 ml9))) rfl ⟨trivial, trivial, trivial, trivial, trivial⟩ ?_
        refine ab_wi (fun c => ?_) (fun c => ?_)
        · have h := h.1 c
          obtain ⟨mi24, ml25, hc, h⟩ := h
          refine ab_wc 2 (c := 72) (as := [.ref 5]) (pc := 93) (ll := [some (.ref 5), some (.int x1)]) (st := []) (c1 := 0) (s1 := 0) (g := (ab_G mi8 ml9)) rfl ⟨trivial, trivial⟩ hc ?_
          obtain ⟨mi26, ml27, hc, h⟩ := h
          refine ab_wc 3 (c := 66) (as := [.ref 5]) (pc := 106) (ll := [some (.ref 5), some (.int x1)]) (st := []) (c1 := 0) (s1 := 0) (g := (ab_G mi24 ml25)) rfl ⟨trivial, trivial, trivial⟩ hc ?_
          exact ab_wr 3 rfl ⟨trivial, trivial, trivial⟩ h
        · have h := h.2 c
          refine ab_wk 4 (f' := (if (mi8 5 5) = 3 then 89 else 96, [some (.ref 5), some (.int x1)], [], 0, 0, (ab_G mi8 ml9))) rfl ⟨trivial, trivial, trivial, trivial, trivial⟩ ?_
          refine ab_wi (fun c => ?_) (fun c => ?_)
          · have h := h.1 c
            obtain ⟨mi28, ml29, hc, h⟩ := h
            refine ab_wc 2 (c := 72) (as := [.ref 5]) (pc := 93) (ll := [some (.ref 5), some (.int x1)]) (st := []) (c1 := 0) (s1 := 0) (g := (ab_G mi8 ml9)) rfl ⟨trivial, trivial⟩ hc ?_
            obtain ⟨mi30, ml31, hc, h⟩ := h
            refine ab_wc 3 (c := 66) (as := [.ref 5]) (pc := 106) (ll := [some (.ref 5), some (.int x1)]) (st := []) (c1 := 0) (s1 := 0) (g := (ab_G mi28 ml29)) rfl ⟨trivial, trivial, trivial⟩ hc ?_
            exact ab_wr 3 rfl ⟨trivial, trivial, trivial⟩ h
          · have h := h.2 c
            obtain ⟨mi32, ml33, hc, h⟩ := h
            refine ab_wc 3 (c := 70) (as := [.ref 5, .int 6]) (pc := 102) (ll := [some (.ref 5), some (.int x1)]) (st := []) (c1 := 0) (s1 := 0) (g := (ab_G mi8 ml9)) rfl ⟨trivial, trivial, trivial⟩ hc ?_
            obtain ⟨mi34, ml35, hc, h⟩ := h
            refine ab_wc 2 (c := 66) (as := [.ref 5]) (pc := 106) (ll := [some (.ref 5), some (.int x1)]) (st := []) (c1 := 0) (s1 := 0) (g := (ab_G mi32 ml33)) rfl ⟨trivial, trivial⟩ hc ?_
            exact ab_wr 3 rfl ⟨trivial, trivial, trivial⟩ h
    · have h := h.2 c
      obtain ⟨r38, mi36, ml37, hc, h⟩ := h
      refine ab_wc 4 (c := 71) (as := [.ref 5, .int x1]) (pc := 56) (ll := [some (.ref 5), some (.int x1)]) (st := [.ref 5]) (c1 := 0) (s1 := 0) (g := (ab_G mi8 ml9)) rfl ⟨trivial, trivial, trivial, trivial⟩ hc ?_
      refine ab_wk 5 (f' := (if (mi36 5 5) = 2 then 67 else 73, [some (.ref 5), some (.int x1)], [], 0, 0, (ab_G (ab_ui mi36 5 6 r38) ml37))) rfl ⟨trivial, trivial, trivial, trivial, trivial, trivial⟩ ?_
      refine ab_wi (fun c => ?_) (fun c => ?_)
      · have h := h.1 c
        obtain ⟨mi39, ml40, hc, h⟩ := h
        refine ab_wc 3 (c := 69) (as := [.ref 5, .ref 1000002]) (pc := 73) (ll := [some (.ref 5), some (.int x1)]) (st := []) (c1 := 0) (s1 := 0) (g := (ab_G (ab_ui mi36 5 6 r38) ml37)) rfl ⟨trivial, trivial, trivial⟩ hc ?_
        refine ab_wk 4 (f' := (if (mi39 5 5) = 2 then 89 else 81, [some (.ref 5), some (.int x1)], [], 0, 0, (ab_G mi39 ml40))) rfl ⟨trivial, trivial, trivial, trivial, trivial⟩ ?_
        refine ab_wi (fun c => ?_) (fun c => ?_)
        · have h := h.1 c
          obtain ⟨mi41, ml42, hc, h⟩ := h
          refine ab_wc 2 (c := 72) (as := [.ref 5]) (pc := 93) (ll := [some (.ref 5), some (.int x1)]) (st := []) (c1 := 0) (s1 := 0) (g := (ab_G mi39 ml40)) rfl ⟨trivial, trivial⟩ hc ?_
          obtain ⟨mi43, ml44, hc, h⟩ := h
          refine ab_wc 3 (c := 66) (as := [.ref 5]) (pc := 106) (ll := [some (.ref 5), some (.int x1)]) (st := []) (c1 := 0) (s1 := 0) (g := (ab_G mi41 ml42)) rfl ⟨trivial, trivial, trivial⟩ hc ?_
          exact ab_wr 3 rfl ⟨trivial, trivial, trivial⟩ h
        · have h := h.2 c
          refine ab_wk 4 (f' := (if (mi39 5 5) = 3 then 89 else 96, [some (.ref 5), some (.int x1)], [], 0, 0, (ab_G mi39 ml40))) rfl ⟨trivial, trivial, trivial, trivial, trivial⟩ ?_
          refine ab_wi (fun c => ?_) (fun c => ?_)
          · have h := h.1 c
            obtain ⟨mi45, ml46, hc, h⟩ := h
            refine ab_wc 2 (c := 72) (as := [.ref 5]) (pc := 93) (ll := [some (.ref 5), some (.int x1)]) (st := []) (c1 := 0) (s1 := 0) (g := (ab_G mi39 ml40)) rfl ⟨trivial, trivial⟩ hc ?_
            obtain ⟨mi47, ml48, hc, h⟩ := h
            refine ab_wc 3 (c := 66) (as := [.ref 5]) (pc := 106) (ll := [some (.ref 5), some (.int x1)]) (st := []) (c1 := 0) (s1 := 0) (g := (ab_G mi45 ml46)) rfl ⟨trivial, trivial, trivial⟩ hc ?_
            exact ab_wr 3 rfl ⟨trivial, trivial, trivial⟩ h
          · have h := h.2 c
            obtain ⟨mi49, ml50, hc, h⟩ := h
            refine ab_wc 3 (c := 70) (as := [.ref 5, .int 6]) (pc := 102) (ll := [some (.ref 5), some (.int x1)]) (st := []) (c1 := 0) (s1 := 0) (g := (ab_G mi39 ml40)) rfl ⟨trivial, trivial, trivial⟩ hc ?_
            obtain ⟨mi51, ml52, hc, h⟩ := h
            refine ab_wc 2 (c := 66) (as := [.ref 5]) (pc := 106) (ll := [some (.ref 5), some (.int x1)]) (st := []) (c1 := 0) (s1 := 0) (g := (ab_G mi49 ml50)) rfl ⟨trivial, trivial⟩ hc ?_
            exact ab_wr 3 rfl ⟨trivial, trivial, trivial⟩ h
      · have h := h.2 c
        refine ab_wk 4 (f' := (if (mi36 5 5) = 2 then 89 else 81, [some (.ref 5), some (.int x1)], [], 0, 0, (ab_G (ab_ui mi36 5 6 r38) ml37))) rfl ⟨trivial, trivial, trivial, trivial, trivial⟩ ?_
        refine ab_wi (fun c => ?_) (fun c => ?_)
        · have h := h.1 c
          obtain ⟨mi53, ml54, hc, h⟩ := h
          refine ab_wc 2 (c := 72) (as := [.ref 5]) (pc := 93) (ll := [some (.ref 5), some (.int x1)]) (st := []) (c1 := 0) (s1 := 0) (g := (ab_G (ab_ui mi36 5 6 r38) ml37)) rfl ⟨trivial, trivial⟩ hc ?_
          obtain ⟨mi55, ml56, hc, h⟩ := h
          refine ab_wc 3 (c := 66) (as := [.ref 5]) (pc := 106) (ll := [some (.ref 5), some (.int x1)]) (st := []) (c1 := 0) (s1 := 0) (g := (ab_G mi53 ml54)) rfl ⟨trivial, trivial, trivial⟩ hc ?_
          exact ab_wr 3 rfl ⟨trivial, trivial, trivial⟩ h
        · have h := h.2 c
          refine ab_wk 4 (f' := (if (mi36 5 5) = 3 then 89 else 96, [some (.ref 5), some (.int x1)], [], 0, 0, (ab_G (ab_ui mi36 5 6 r38) ml37))) rfl ⟨trivial, trivial, trivial, trivial, trivial⟩ ?_
          refine ab_wi (fun c => ?_) (fun c => ?_)
          · have h := h.1 c
            obtain ⟨mi57, ml58, hc, h⟩ := h
            refine ab_wc 2 (c := 72) (as := [.ref 5]) (pc := 93) (ll := [some (.ref 5), some (.int x1)]) (st := []) (c1 := 0) (s1 := 0) (g := (ab_G (ab_ui mi36 5 6 r38) ml37)) rfl ⟨trivial, trivial⟩ hc ?_
            obtain ⟨mi59, ml60, hc, h⟩ := h
            refine ab_wc 3 (c := 66) (as := [.ref 5]) (pc := 106) (ll := [some (.ref 5), some (.int x1)]) (st := []) (c1 := 0) (s1 := 0) (g := (ab_G mi57 ml58)) rfl ⟨trivial, trivial, trivial⟩ hc ?_
            exact ab_wr 3 rfl ⟨trivial, trivial, trivial⟩ h
          · have h := h.2 c
            obtain ⟨mi61, ml62, hc, h⟩ := h
            refine ab_wc 3 (c := 70) (as := [.ref 5, .int 6]) (pc := 102) (ll := [some (.ref 5), some (.int x1)]) (st := []) (c1 := 0) (s1 := 0) (g := (ab_G (ab_ui mi36 5 6 r38) ml37)) rfl ⟨trivial, trivial, trivial⟩ hc ?_
            obtain ⟨mi63, ml64, hc, h⟩ := h
            refine ab_wc 2 (c := 66) (as := [.ref 5]) (pc := 106) (ll := [some (.ref 5), some (.int x1)]) (st := []) (c1 := 0) (s1 := 0) (g := (ab_G mi61 ml62)) rfl ⟨trivial, trivial⟩ hc ?_
            exact ab_wr 3 rfl ⟨trivial, trivial, trivial⟩ h
theorem vc_X7_readGround_0 {call : Nat → List Value → ab_S → Option Value → ab_S → Prop} {ro : ab_E} {Q : Option Value → ab_S → Prop}  (mi : Nat → Nat → Int32) (ml : Nat → Nat → Int64)
    (h : ∃ (mi1 : Nat → Nat → Int32) (ml2 : Nat → Nat → Int64), call 65 [.ref 5] (ab_G mi ml) none (ab_G mi1 ml2) ∧ (∃ (mi3 : Nat → Nat → Int32) (ml4 : Nat → Nat → Int64), call 73 [.ref 5, .int 0] (ab_G mi1 ml2) none (ab_G mi3 ml4) ∧ (∃ (mi5 : Nat → Nat → Int32) (ml6 : Nat → Nat → Int64), call 70 [.ref 5, .int 6] (ab_G mi3 ml4) none (ab_G mi5 ml6) ∧ (∃ (mi7 : Nat → Nat → Int32) (ml8 : Nat → Nat → Int64), call 66 [.ref 5] (ab_G mi5 ml6) none (ab_G mi7 ml8) ∧ (Q (some (.int (mi7 5 1))) (ab_G mi7 ml8)))))) :
    ab_W call ro 0 0 (ab_lk2 pl_X7_readGround) Q (0, [some (.ref 5)], [], 0, 0, ab_G mi ml) := by
  obtain ⟨mi1, ml2, hc, h⟩ := h
  refine ab_wc 2 (c := 65) (as := [.ref 5]) (pc := 4) (ll := [some (.ref 5)]) (st := []) (c1 := 0) (s1 := 0) (g := (ab_G mi ml)) rfl ⟨trivial, trivial⟩ hc ?_
  obtain ⟨mi3, ml4, hc, h⟩ := h
  refine ab_wc 3 (c := 73) (as := [.ref 5, .int 0]) (pc := 9) (ll := [some (.ref 5)]) (st := []) (c1 := 0) (s1 := 0) (g := (ab_G mi1 ml2)) rfl ⟨trivial, trivial, trivial⟩ hc ?_
  obtain ⟨mi5, ml6, hc, h⟩ := h
  refine ab_wc 3 (c := 70) (as := [.ref 5, .int 6]) (pc := 15) (ll := [some (.ref 5)]) (st := []) (c1 := 0) (s1 := 0) (g := (ab_G mi3 ml4)) rfl ⟨trivial, trivial, trivial⟩ hc ?_
  obtain ⟨mi7, ml8, hc, h⟩ := h
  refine ab_wc 2 (c := 66) (as := [.ref 5]) (pc := 19) (ll := [some (.ref 5)]) (st := []) (c1 := 0) (s1 := 0) (g := (ab_G mi5 ml6)) rfl ⟨trivial, trivial⟩ hc ?_
  exact ab_wr 3 rfl ⟨trivial, trivial, trivial⟩ h
theorem vc_X7_begin_0 {call : Nat → List Value → ab_S → Option Value → ab_S → Prop} {ro : ab_E} {Q : Option Value → ab_S → Prop}  (mi : Nat → Nat → Int32) (ml : Nat → Nat → Int64)
    (h : ∃ (mi1 : Nat → Nat → Int32) (ml2 : Nat → Nat → Int64), call 84 [.ref 2] (ab_G (ab_ui (ab_ui mi 5 1 0) 5 4 0) (ab_ul (ab_ul ml 5 2 0) 5 3 0)) none (ab_G mi1 ml2) ∧ (Q none (ab_G mi1 ml2))) :
    ab_W call ro 0 0 (ab_lk2 pl_X7_begin) Q (0, [some (.ref 5)], [], 0, 0, ab_G mi ml) := by
  obtain ⟨mi1, ml2, hc, h⟩ := h
  refine ab_wc 15 (c := 84) (as := [.ref 2]) (pc := 27) (ll := [some (.ref 5)]) (st := []) (c1 := 0) (s1 := 0) (g := (ab_G (ab_ui (ab_ui mi 5 1 0) 5 4 0) (ab_ul (ab_ul ml 5 2 0) 5 3 0))) rfl ⟨trivial, trivial, trivial, trivial, trivial, trivial, trivial, trivial, trivial, trivial, trivial, (Or.inl rfl), trivial, trivial, trivial⟩ hc ?_
  exact ab_wr 1 rfl trivial h
theorem vc_X7_finish_0 {call : Nat → List Value → ab_S → Option Value → ab_S → Prop} {ro : ab_E} {Q : Option Value → ab_S → Prop}  (mi : Nat → Nat → Int32) (ml : Nat → Nat → Int64)
    (h : (((mi 2 3) = 0) → (Q none (ab_G mi ml))) ∧ (¬ ((mi 2 3) = 0) → (∃ (mi1 : Nat → Nat → Int32) (ml2 : Nat → Nat → Int64), call 67 [.ref 5, .int 1] (ab_G mi ml) none (ab_G mi1 ml2) ∧ (Q none (ab_G mi1 ml2))))) :
    ab_W call ro 0 0 (ab_lk2 pl_X7_finish) Q (0, [some (.ref 5)], [], 0, 0, ab_G mi ml) := by
  refine ab_wk 4 (f' := (if (mi 2 3) = 0 then 15 else 10, [some (.ref 5)], [], 0, 0, (ab_G mi ml))) rfl ⟨trivial, trivial, trivial, trivial, trivial⟩ ?_
  refine ab_wi (fun c => ?_) (fun c => ?_)
  · have h := h.1 c
    exact ab_wr 1 rfl trivial h
  · have h := h.2 c
    obtain ⟨mi1, ml2, hc, h⟩ := h
    refine ab_wc 3 (c := 67) (as := [.ref 5, .int 1]) (pc := 15) (ll := [some (.ref 5)]) (st := []) (c1 := 0) (s1 := 0) (g := (ab_G mi ml)) rfl ⟨trivial, trivial, trivial⟩ hc ?_
    exact ab_wr 1 rfl trivial h
theorem vc_X7_fail_0 {call : Nat → List Value → ab_S → Option Value → ab_S → Prop} {ro : ab_E} {Q : Option Value → ab_S → Prop} (x1 : Int32) (mi : Nat → Nat → Int32) (ml : Nat → Nat → Int64)
    (h : (((mi 5 1) = 0) → (Q none (ab_G (ab_ui mi 5 1 (x1 + ((16 : Int32) * (mi 2 4)))) ml))) ∧ (¬ ((mi 5 1) = 0) → (Q none (ab_G mi ml)))) :
    ab_W call ro 0 0 (ab_lk2 pl_X7_fail) Q (0, [some (.ref 5), some (.int x1)], [], 0, 0, ab_G mi ml) := by
  refine ab_wk 3 (f' := (if (mi 5 1) = 0 then 7 else 23, [some (.ref 5), some (.int x1)], [], 0, 0, (ab_G mi ml))) rfl ⟨trivial, trivial, trivial, trivial⟩ ?_
  refine ab_wi (fun c => ?_) (fun c => ?_)
  · have h := h.1 c
    exact ab_wr 10 rfl ⟨trivial, trivial, trivial, trivial, trivial, trivial, trivial, trivial, trivial, trivial⟩ h
  · have h := h.2 c
    exact ab_wr 1 rfl trivial h
theorem vc_X7_verbHere_0 {call : Nat → List Value → ab_S → Option Value → ab_S → Prop} {ro : ab_E} {Q : Option Value → ab_S → Prop}  (mi : Nat → Nat → Int32) (ml : Nat → Nat → Int64)
    (h : ∃ (r3 : Int32) (mi1 : Nat → Nat → Int32) (ml2 : Nat → Nat → Int64), call 86 [.ref 2, .ref 1000003] (ab_G mi ml) (some (.int r3)) (ab_G mi1 ml2) ∧ (((r3 = 0) → (∃ (r6 : Int32) (mi4 : Nat → Nat → Int32) (ml5 : Nat → Nat → Int64), call 86 [.ref 2, .ref 1000004] (ab_G mi1 ml2) (some (.int r6)) (ab_G mi4 ml5) ∧ (((r6 = 0) → (∃ (r9 : Int32) (mi7 : Nat → Nat → Int32) (ml8 : Nat → Nat → Int64), call 86 [.ref 2, .ref 1000005] (ab_G mi4 ml5) (some (.int r9)) (ab_G mi7 ml8) ∧ (((r9 = 0) → (∃ (r12 : Int32) (mi10 : Nat → Nat → Int32) (ml11 : Nat → Nat → Int64), call 86 [.ref 2, .ref 1000006] (ab_G mi7 ml8) (some (.int r12)) (ab_G mi10 ml11) ∧ (((r12 = 0) → (Q (some (.int (-1))) (ab_G mi10 ml11))) ∧ (¬ (r12 = 0) → (Q (some (.int 3)) (ab_G mi10 ml11)))))) ∧ (¬ (r9 = 0) → (Q (some (.int 2)) (ab_G mi7 ml8)))))) ∧ (¬ (r6 = 0) → (Q (some (.int 1)) (ab_G mi4 ml5)))))) ∧ (¬ (r3 = 0) → (Q (some (.int 0)) (ab_G mi1 ml2))))) :
    ab_W call ro 0 0 (ab_lk2 pl_X7_verbHere) Q (0, [some (.ref 5)], [], 0, 0, ab_G mi ml) := by
  obtain ⟨r3, mi1, ml2, hc, h⟩ := h
  refine ab_wc 4 (c := 86) (as := [.ref 2, .ref 1000003]) (pc := 9) (ll := [some (.ref 5)]) (st := []) (c1 := 0) (s1 := 0) (g := (ab_G mi ml)) rfl ⟨trivial, trivial, trivial, trivial⟩ hc ?_
  refine ab_wk 1 (f' := (if r3 = 0 then 14 else 12, [some (.ref 5)], [], 0, 0, (ab_G mi1 ml2))) rfl ⟨trivial, trivial⟩ ?_
  refine ab_wi (fun c => ?_) (fun c => ?_)
  · have h := h.1 c
    obtain ⟨r6, mi4, ml5, hc, h⟩ := h
    refine ab_wc 4 (c := 86) (as := [.ref 2, .ref 1000004]) (pc := 23) (ll := [some (.ref 5)]) (st := []) (c1 := 0) (s1 := 0) (g := (ab_G mi1 ml2)) rfl ⟨trivial, trivial, trivial, trivial⟩ hc ?_
    refine ab_wk 1 (f' := (if r6 = 0 then 28 else 26, [some (.ref 5)], [], 0, 0, (ab_G mi4 ml5))) rfl ⟨trivial, trivial⟩ ?_
    refine ab_wi (fun c => ?_) (fun c => ?_)
    · have h := h.1 c
      obtain ⟨r9, mi7, ml8, hc, h⟩ := h
      refine ab_wc 4 (c := 86) (as := [.ref 2, .ref 1000005]) (pc := 37) (ll := [some (.ref 5)]) (st := []) (c1 := 0) (s1 := 0) (g := (ab_G mi4 ml5)) rfl ⟨trivial, trivial, trivial, trivial⟩ hc ?_
      refine ab_wk 1 (f' := (if r9 = 0 then 42 else 40, [some (.ref 5)], [], 0, 0, (ab_G mi7 ml8))) rfl ⟨trivial, trivial⟩ ?_
      refine ab_wi (fun c => ?_) (fun c => ?_)
      · have h := h.1 c
        obtain ⟨r12, mi10, ml11, hc, h⟩ := h
        refine ab_wc 4 (c := 86) (as := [.ref 2, .ref 1000006]) (pc := 51) (ll := [some (.ref 5)]) (st := []) (c1 := 0) (s1 := 0) (g := (ab_G mi7 ml8)) rfl ⟨trivial, trivial, trivial, trivial⟩ hc ?_
        refine ab_wk 1 (f' := (if r12 = 0 then 58 else 54, [some (.ref 5)], [], 0, 0, (ab_G mi10 ml11))) rfl ⟨trivial, trivial⟩ ?_
        refine ab_wi (fun c => ?_) (fun c => ?_)
        · have h := h.1 c
          exact ab_wr 2 rfl ⟨trivial, trivial⟩ h
        · have h := h.2 c
          exact ab_wr 3 rfl ⟨trivial, trivial, trivial⟩ h
      · have h := h.2 c
        exact ab_wr 2 rfl ⟨trivial, trivial⟩ h
    · have h := h.2 c
      exact ab_wr 2 rfl ⟨trivial, trivial⟩ h
  · have h := h.2 c
    exact ab_wr 2 rfl ⟨trivial, trivial⟩ h
theorem vc_X7_takeSign_0 {call : Nat → List Value → ab_S → Option Value → ab_S → Prop} {ro : ab_E} {Q : Option Value → ab_S → Prop} (x1 : Int32) (mi : Nat → Nat → Int32) (ml : Nat → Nat → Int64)
    (h : (((mi 5 1) = 0) → ((((mi 2 3) = x1) → (∃ (mi1 : Nat → Nat → Int32) (ml2 : Nat → Nat → Int64), call 85 [.ref 2] (ab_G mi ml) none (ab_G mi1 ml2) ∧ (Q none (ab_G mi1 ml2)))) ∧ (¬ ((mi 2 3) = x1) → (∃ (mi3 : Nat → Nat → Int32) (ml4 : Nat → Nat → Int64), call 67 [.ref 5, .int 1] (ab_G mi ml) none (ab_G mi3 ml4) ∧ (Q none (ab_G mi3 ml4)))))) ∧ (¬ ((mi 5 1) = 0) → (∃ (mi5 : Nat → Nat → Int32) (ml6 : Nat → Nat → Int64), call 67 [.ref 5, .int 1] (ab_G mi ml) none (ab_G mi5 ml6) ∧ (Q none (ab_G mi5 ml6))))) :
    ab_W call ro 0 0 (ab_lk2 pl_X7_takeSign) Q (0, [some (.ref 5), some (.int x1)], [], 0, 0, ab_G mi ml) := by
  refine ab_wk 3 (f' := (if (mi 5 1) = 0 then 7 else 28, [some (.ref 5), some (.int x1)], [], 0, 0, (ab_G mi ml))) rfl ⟨trivial, trivial, trivial, trivial⟩ ?_
  refine ab_wi (fun c => ?_) (fun c => ?_)
  · have h := h.1 c
    refine ab_wk 5 (f' := (if (mi 2 3) = x1 then 18 else 28, [some (.ref 5), some (.int x1)], [], 0, 0, (ab_G mi ml))) rfl ⟨trivial, trivial, trivial, trivial, trivial, trivial⟩ ?_
    refine ab_wi (fun c => ?_) (fun c => ?_)
    · have h := h.1 c
      obtain ⟨mi1, ml2, hc, h⟩ := h
      refine ab_wc 3 (c := 85) (as := [.ref 2]) (pc := 25) (ll := [some (.ref 5), some (.int x1)]) (st := []) (c1 := 0) (s1 := 0) (g := (ab_G mi ml)) rfl ⟨trivial, trivial, trivial⟩ hc ?_
      exact ab_wr 2 rfl ⟨trivial, trivial⟩ h
    · have h := h.2 c
      obtain ⟨mi3, ml4, hc, h⟩ := h
      refine ab_wc 3 (c := 67) (as := [.ref 5, .int 1]) (pc := 33) (ll := [some (.ref 5), some (.int x1)]) (st := []) (c1 := 0) (s1 := 0) (g := (ab_G mi ml)) rfl ⟨trivial, trivial, trivial⟩ hc ?_
      exact ab_wr 1 rfl trivial h
  · have h := h.2 c
    obtain ⟨mi5, ml6, hc, h⟩ := h
    refine ab_wc 3 (c := 67) (as := [.ref 5, .int 1]) (pc := 33) (ll := [some (.ref 5), some (.int x1)]) (st := []) (c1 := 0) (s1 := 0) (g := (ab_G mi ml)) rfl ⟨trivial, trivial, trivial⟩ hc ?_
    exact ab_wr 1 rfl trivial h
theorem vc_X7_takeNumber_0 {call : Nat → List Value → ab_S → Option Value → ab_S → Prop} {ro : ab_E} {Q : Option Value → ab_S → Prop} (x1 : Int32) (mi : Nat → Nat → Int32) (ml : Nat → Nat → Int64)
    (h : (((mi 5 1) = 0) → ((((mi 2 3) = 3) → (∃ (r3 : Int32) (mi1 : Nat → Nat → Int32) (ml2 : Nat → Nat → Int64), call 88 [.ref 2] (ab_G mi ml) (some (.int r3)) (ab_G mi1 ml2) ∧ (((r3 < x1) → (∃ (mi4 : Nat → Nat → Int32) (ml5 : Nat → Nat → Int64), call 85 [.ref 2] (ab_G mi1 ml2) none (ab_G mi4 ml5) ∧ (Q (some (.int r3)) (ab_G mi4 ml5)))) ∧ (¬ (r3 < x1) → (∃ (mi6 : Nat → Nat → Int32) (ml7 : Nat → Nat → Int64), call 67 [.ref 5, .int 4] (ab_G mi1 ml2) none (ab_G mi6 ml7) ∧ (Q (some (.int 0)) (ab_G mi6 ml7))))))) ∧ (¬ ((mi 2 3) = 3) → (∃ (mi8 : Nat → Nat → Int32) (ml9 : Nat → Nat → Int64), call 67 [.ref 5, .int 1] (ab_G mi ml) none (ab_G mi8 ml9) ∧ (Q (some (.int 0)) (ab_G mi8 ml9)))))) ∧ (¬ ((mi 5 1) = 0) → (∃ (mi10 : Nat → Nat → Int32) (ml11 : Nat → Nat → Int64), call 67 [.ref 5, .int 1] (ab_G mi ml) none (ab_G mi10 ml11) ∧ (Q (some (.int 0)) (ab_G mi10 ml11))))) :
    ab_W call ro 0 0 (ab_lk2 pl_X7_takeNumber) Q (0, [some (.ref 5), some (.int x1), none], [], 0, 0, ab_G mi ml) := by
  refine ab_wk 3 (f' := (if (mi 5 1) = 0 then 7 else 18, [some (.ref 5), some (.int x1), none], [], 0, 0, (ab_G mi ml))) rfl ⟨trivial, trivial, trivial, trivial⟩ ?_
  refine ab_wi (fun c => ?_) (fun c => ?_)
  · have h := h.1 c
    refine ab_wk 5 (f' := (if (mi 2 3) = 3 then 25 else 18, [some (.ref 5), some (.int x1), none], [], 0, 0, (ab_G mi ml))) rfl ⟨trivial, trivial, trivial, trivial, trivial, trivial⟩ ?_
    refine ab_wi (fun c => ?_) (fun c => ?_)
    · have h := h.1 c
      obtain ⟨r3, mi1, ml2, hc, h⟩ := h
      refine ab_wc 3 (c := 88) (as := [.ref 2]) (pc := 32) (ll := [some (.ref 5), some (.int x1), none]) (st := []) (c1 := 0) (s1 := 0) (g := (ab_G mi ml)) rfl ⟨trivial, trivial, trivial⟩ hc ?_
      refine ab_wk 4 (f' := (if r3 < x1 then 45 else 38, [some (.ref 5), some (.int x1), some (.int r3)], [], 0, 0, (ab_G mi1 ml2))) rfl ⟨trivial, trivial, trivial, trivial, trivial⟩ ?_
      refine ab_wi (fun c => ?_) (fun c => ?_)
      · have h := h.1 c
        obtain ⟨mi4, ml5, hc, h⟩ := h
        refine ab_wc 3 (c := 85) (as := [.ref 2]) (pc := 52) (ll := [some (.ref 5), some (.int x1), some (.int r3)]) (st := []) (c1 := 0) (s1 := 0) (g := (ab_G mi1 ml2)) rfl ⟨trivial, trivial, trivial⟩ hc ?_
        exact ab_wr 2 rfl ⟨trivial, trivial⟩ h
      · have h := h.2 c
        obtain ⟨mi6, ml7, hc, h⟩ := h
        refine ab_wc 3 (c := 67) (as := [.ref 5, .int 4]) (pc := 43) (ll := [some (.ref 5), some (.int x1), some (.int r3)]) (st := []) (c1 := 0) (s1 := 0) (g := (ab_G mi1 ml2)) rfl ⟨trivial, trivial, trivial⟩ hc ?_
        exact ab_wr 2 rfl ⟨trivial, trivial⟩ h
    · have h := h.2 c
      obtain ⟨mi8, ml9, hc, h⟩ := h
      refine ab_wc 3 (c := 67) (as := [.ref 5, .int 1]) (pc := 23) (ll := [some (.ref 5), some (.int x1), none]) (st := []) (c1 := 0) (s1 := 0) (g := (ab_G mi ml)) rfl ⟨trivial, trivial, trivial⟩ hc ?_
      exact ab_wr 2 rfl ⟨trivial, trivial⟩ h
  · have h := h.2 c
    obtain ⟨mi10, ml11, hc, h⟩ := h
    refine ab_wc 3 (c := 67) (as := [.ref 5, .int 1]) (pc := 23) (ll := [some (.ref 5), some (.int x1), none]) (st := []) (c1 := 0) (s1 := 0) (g := (ab_G mi ml)) rfl ⟨trivial, trivial, trivial⟩ hc ?_
    exact ab_wr 2 rfl ⟨trivial, trivial⟩ h
theorem vc_X7_readLine_0 {call : Nat → List Value → ab_S → Option Value → ab_S → Prop} {ro : ab_E} {Q : Option Value → ab_S → Prop}  (mi : Nat → Nat → Int32) (ml : Nat → Nat → Int64)
    (h : (((mi 5 1) = 0) → (∃ (r3 : Int32) (mi1 : Nat → Nat → Int32) (ml2 : Nat → Nat → Int64), call 86 [.ref 2, .ref 1000001] (ab_G mi ml) (some (.int r3)) (ab_G mi1 ml2) ∧ ((r3 = 0 ∨ r3 = 1) ∧ (((r3 = 0) → (∃ (mi4 : Nat → Nat → Int32) (ml5 : Nat → Nat → Int64), call 69 [.ref 5, .ref 1000000] (ab_G (ab_ui mi1 5 4 r3) ml2) none (ab_G mi4 ml5) ∧ (∃ (mi6 : Nat → Nat → Int32) (ml7 : Nat → Nat → Int64), call 73 [.ref 5, .int 0] (ab_G mi4 ml5) none (ab_G mi6 ml7) ∧ (∃ (mi8 : Nat → Nat → Int32) (ml9 : Nat → Nat → Int64), call 70 [.ref 5, .int 6] (ab_G mi6 ml7) none (ab_G mi8 ml9) ∧ (Q none (ab_G mi8 ml9)))))) ∧ (¬ (r3 = 0) → (∃ (mi10 : Nat → Nat → Int32) (ml11 : Nat → Nat → Int64), call 69 [.ref 5, .ref 1000001] (ab_G (ab_ui mi1 5 4 r3) ml2) none (ab_G mi10 ml11) ∧ (∃ (mi12 : Nat → Nat → Int32) (ml13 : Nat → Nat → Int64), call 73 [.ref 5, .int 0] (ab_G mi10 ml11) none (ab_G mi12 ml13) ∧ (∃ (mi14 : Nat → Nat → Int32) (ml15 : Nat → Nat → Int64), call 70 [.ref 5, .int 6] (ab_G mi12 ml13) none (ab_G mi14 ml15) ∧ (Q none (ab_G mi14 ml15)))))))))) ∧ (¬ ((mi 5 1) = 0) → (Q none (ab_G mi ml)))) :
    ab_W call ro 0 0 (ab_lk2 pl_X7_readLine) Q (0, [some (.ref 5)], [], 0, 0, ab_G mi ml) := by
  refine ab_wk 3 (f' := (if (mi 5 1) = 0 then 8 else 7, [some (.ref 5)], [], 0, 0, (ab_G mi ml))) rfl ⟨trivial, trivial, trivial, trivial⟩ ?_
  refine ab_wi (fun c => ?_) (fun c => ?_)
  · have h := h.1 c
    obtain ⟨r3, mi1, ml2, hc, h⟩ := h
    refine ab_wc 5 (c := 86) (as := [.ref 2, .ref 1000001]) (pc := 18) (ll := [some (.ref 5)]) (st := [.ref 5]) (c1 := 0) (s1 := 0) (g := (ab_G mi ml)) rfl ⟨trivial, trivial, trivial, trivial, trivial⟩ hc ?_
    obtain ⟨p0, h⟩ := h
    refine ab_wk 5 (f' := (if r3 = 0 then 34 else 29, [some (.ref 5)], [.ref 5], 0, 0, (ab_G (ab_ui mi1 5 4 r3) ml2))) rfl ⟨p0, trivial, trivial, trivial, trivial, trivial⟩ ?_
    refine ab_wi (fun c => ?_) (fun c => ?_)
    · have h := h.1 c
      obtain ⟨mi4, ml5, hc, h⟩ := h
      refine ab_wc 2 (c := 69) (as := [.ref 5, .ref 1000000]) (pc := 39) (ll := [some (.ref 5)]) (st := []) (c1 := 0) (s1 := 0) (g := (ab_G (ab_ui mi1 5 4 r3) ml2)) rfl ⟨trivial, trivial⟩ hc ?_
      obtain ⟨mi6, ml7, hc, h⟩ := h
      refine ab_wc 3 (c := 73) (as := [.ref 5, .int 0]) (pc := 44) (ll := [some (.ref 5)]) (st := []) (c1 := 0) (s1 := 0) (g := (ab_G mi4 ml5)) rfl ⟨trivial, trivial, trivial⟩ hc ?_
      obtain ⟨mi8, ml9, hc, h⟩ := h
      refine ab_wc 3 (c := 70) (as := [.ref 5, .int 6]) (pc := 50) (ll := [some (.ref 5)]) (st := []) (c1 := 0) (s1 := 0) (g := (ab_G mi6 ml7)) rfl ⟨trivial, trivial, trivial⟩ hc ?_
      exact ab_wr 1 rfl trivial h
    · have h := h.2 c
      obtain ⟨mi10, ml11, hc, h⟩ := h
      refine ab_wc 3 (c := 69) (as := [.ref 5, .ref 1000001]) (pc := 39) (ll := [some (.ref 5)]) (st := []) (c1 := 0) (s1 := 0) (g := (ab_G (ab_ui mi1 5 4 r3) ml2)) rfl ⟨trivial, trivial, trivial⟩ hc ?_
      obtain ⟨mi12, ml13, hc, h⟩ := h
      refine ab_wc 3 (c := 73) (as := [.ref 5, .int 0]) (pc := 44) (ll := [some (.ref 5)]) (st := []) (c1 := 0) (s1 := 0) (g := (ab_G mi10 ml11)) rfl ⟨trivial, trivial, trivial⟩ hc ?_
      obtain ⟨mi14, ml15, hc, h⟩ := h
      refine ab_wc 3 (c := 70) (as := [.ref 5, .int 6]) (pc := 50) (ll := [some (.ref 5)]) (st := []) (c1 := 0) (s1 := 0) (g := (ab_G mi12 ml13)) rfl ⟨trivial, trivial, trivial⟩ hc ?_
      exact ab_wr 1 rfl trivial h
  · have h := h.2 c
    exact ab_wr 1 rfl trivial h
theorem vc_X7_saying_0 {call : Nat → List Value → ab_S → Option Value → ab_S → Prop} {ro : ab_E} {Q : Option Value → ab_S → Prop} (x1 : Int32) (mi : Nat → Nat → Int32) (ml : Nat → Nat → Int64)
    (h : ab_W call ro 0 0 (ab_lk2 pl_X7_saying) Q (21, [some (.ref 5), some (.int x1), some (.long 0), none, some (.long 0), none, some (.long (-1)), none, some (.long (-1)), none, some (.int 1), some (.int 0), none], [], 0, 0, (ab_G mi ml))) :
    ab_W call ro 0 0 (ab_lk2 pl_X7_saying) Q (0, [some (.ref 5), some (.int x1), none, none, none, none, none, none, none, none, none, none, none], [], 0, 0, ab_G mi ml) := by
  refine ab_wk 4 (f' := (5, [some (.ref 5), some (.int x1), some (.long 0), none, some (.long 0), none, none, none, none, none, none, none, none], [], 0, 0, (ab_G mi ml))) rfl ⟨trivial, trivial, trivial, trivial, trivial⟩ ?_
  refine ab_wk 4 (f' := (15, [some (.ref 5), some (.int x1), some (.long 0), none, some (.long 0), none, some (.long (-1)), none, some (.long (-1)), none, none, none, none], [], 0, 0, (ab_G mi ml))) rfl ⟨trivial, trivial, trivial, trivial, trivial⟩ ?_
  refine ab_wk 4 (f' := (21, [some (.ref 5), some (.int x1), some (.long 0), none, some (.long 0), none, some (.long (-1)), none, some (.long (-1)), none, some (.int 1), some (.int 0), none], [], 0, 0, (ab_G mi ml))) rfl ⟨trivial, trivial, trivial, trivial, trivial⟩ ?_
  exact h
theorem vc_X7_saying_21 {call : Nat → List Value → ab_S → Option Value → ab_S → Prop} {ro : ab_E} {Q : Option Value → ab_S → Prop} (y1 : Int32) (y2 : Int64) (y4 : Int64) (y6 : Int64) (y8 : Int64) (y10 : Int32) (y11 : Int32) (mi : Nat → Nat → Int32) (ml : Nat → Nat → Int64)
    (h : ((y11 < 1000) → (((y10 = 0) → (Q none (ab_G mi (ab_ul (ab_ul ml 5 2 y2) 5 3 y4)))) ∧ (¬ (y10 = 0) → (∃ (mi1 : Nat → Nat → Int32) (ml2 : Nat → Nat → Int64), call 75 [.ref 5, .int y1] (ab_G mi ml) none (ab_G mi1 ml2) ∧ ((((mi1 5 1) = 0) → (∃ (r5 : Int32) (mi3 : Nat → Nat → Int32) (ml4 : Nat → Nat → Int64), call 86 [.ref 2, .ref 1000008] (ab_G mi1 ml2) (some (.int r5)) (ab_G mi3 ml4) ∧ (((r5 = 0) → ((((mi3 5 1) = 0) → (∃ (r8 : Int32) (mi6 : Nat → Nat → Int32) (ml7 : Nat → Nat → Int64), call 86 [.ref 2, .ref 1000007] (ab_G mi3 ml4) (some (.int r8)) (ab_G mi6 ml7) ∧ (((r8 = 0) → (ab_W call ro 0 0 (ab_lk2 pl_X7_saying) Q (21, [some (.ref 5), some (.int y1), some (.long (y2 ||| (y6 &&& (ml2 5 2)))), none, some (.long (y4 ||| (y8 &&& (ml2 5 3)))), none, some (.long (-1)), none, some (.long (-1)), none, some (.int 0), some (.int (y11 + 1)), none], [], 0, 0, (ab_G mi6 ml7)))) ∧ (¬ (r8 = 0) → (∃ (mi9 : Nat → Nat → Int32) (ml10 : Nat → Nat → Int64), call 85 [.ref 2] (ab_G mi6 ml7) none (ab_G mi9 ml10) ∧ (ab_W call ro 0 0 (ab_lk2 pl_X7_saying) Q (21, [some (.ref 5), some (.int y1), some (.long (y2 ||| (y6 &&& (ml2 5 2)))), none, some (.long (y4 ||| (y8 &&& (ml2 5 3)))), none, some (.long (-1)), none, some (.long (-1)), none, some (.int 1), some (.int (y11 + 1)), none], [], 0, 0, (ab_G mi9 ml10)))))))) ∧ (¬ ((mi3 5 1) = 0) → (ab_W call ro 0 0 (ab_lk2 pl_X7_saying) Q (21, [some (.ref 5), some (.int y1), some (.long (y2 ||| (y6 &&& (ml2 5 2)))), none, some (.long (y4 ||| (y8 &&& (ml2 5 3)))), none, some (.long (-1)), none, some (.long (-1)), none, some (.int 0), some (.int (y11 + 1)), none], [], 0, 0, (ab_G mi3 ml4)))))) ∧ (¬ (r5 = 0) → (∃ (mi11 : Nat → Nat → Int32) (ml12 : Nat → Nat → Int64), call 85 [.ref 2] (ab_G mi3 ml4) none (ab_G mi11 ml12) ∧ (ab_W call ro 0 0 (ab_lk2 pl_X7_saying) Q (21, [some (.ref 5), some (.int y1), some (.long y2), none, some (.long y4), none, some (.long (y6 &&& (ml2 5 2))), none, some (.long (y8 &&& (ml2 5 3))), none, some (.int 1), some (.int (y11 + 1)), none], [], 0, 0, (ab_G mi11 ml12)))))))) ∧ (¬ ((mi1 5 1) = 0) → ((((mi1 5 1) = 0) → (∃ (r15 : Int32) (mi13 : Nat → Nat → Int32) (ml14 : Nat → Nat → Int64), call 86 [.ref 2, .ref 1000007] (ab_G mi1 ml2) (some (.int r15)) (ab_G mi13 ml14) ∧ (((r15 = 0) → (ab_W call ro 0 0 (ab_lk2 pl_X7_saying) Q (21, [some (.ref 5), some (.int y1), some (.long (y2 ||| (y6 &&& (ml2 5 2)))), none, some (.long (y4 ||| (y8 &&& (ml2 5 3)))), none, some (.long (-1)), none, some (.long (-1)), none, some (.int 0), some (.int (y11 + 1)), none], [], 0, 0, (ab_G mi13 ml14)))) ∧ (¬ (r15 = 0) → (∃ (mi16 : Nat → Nat → Int32) (ml17 : Nat → Nat → Int64), call 85 [.ref 2] (ab_G mi13 ml14) none (ab_G mi16 ml17) ∧ (ab_W call ro 0 0 (ab_lk2 pl_X7_saying) Q (21, [some (.ref 5), some (.int y1), some (.long (y2 ||| (y6 &&& (ml2 5 2)))), none, some (.long (y4 ||| (y8 &&& (ml2 5 3)))), none, some (.long (-1)), none, some (.long (-1)), none, some (.int 1), some (.int (y11 + 1)), none], [], 0, 0, (ab_G mi16 ml17)))))))) ∧ (¬ ((mi1 5 1) = 0) → (ab_W call ro 0 0 (ab_lk2 pl_X7_saying) Q (21, [some (.ref 5), some (.int y1), some (.long (y2 ||| (y6 &&& (ml2 5 2)))), none, some (.long (y4 ||| (y8 &&& (ml2 5 3)))), none, some (.long (-1)), none, some (.long (-1)), none, some (.int 0), some (.int (y11 + 1)), none], [], 0, 0, (ab_G mi1 ml2))))))))))) ∧ (¬ (y11 < 1000) → (Q none (ab_G mi (ab_ul (ab_ul ml 5 2 y2) 5 3 y4))))) :
    ab_W call ro 0 0 (ab_lk2 pl_X7_saying) Q (21, [some (.ref 5), some (.int y1), some (.long y2), none, some (.long y4), none, some (.long y6), none, some (.long y8), none, some (.int y10), some (.int y11), none], [], 0, 0, ab_G mi ml) := by
  refine ab_wk 3 (f' := (if y11 < 1000 then 29 else 159, [some (.ref 5), some (.int y1), some (.long y2), none, some (.long y4), none, some (.long y6), none, some (.long y8), none, some (.int y10), some (.int y11), none], [], 0, 0, (ab_G mi ml))) rfl ⟨trivial, trivial, trivial, trivial⟩ ?_
  refine ab_wi (fun c => ?_) (fun c => ?_)
  · have h := h.1 c
    refine ab_wk 2 (f' := (if y10 = 0 then 159 else 34, [some (.ref 5), some (.int y1), some (.long y2), none, some (.long y4), none, some (.long y6), none, some (.long y8), none, some (.int y10), some (.int y11), none], [], 0, 0, (ab_G mi ml))) rfl ⟨trivial, trivial, trivial⟩ ?_
    refine ab_wi (fun c => ?_) (fun c => ?_)
    · have h := h.1 c
      exact ab_wr 7 rfl ⟨trivial, trivial, trivial, trivial, trivial, trivial, trivial⟩ h
    · have h := h.2 c
      obtain ⟨mi1, ml2, hc, h⟩ := h
      refine ab_wc 3 (c := 75) (as := [.ref 5, .int y1]) (pc := 39) (ll := [some (.ref 5), some (.int y1), some (.long y2), none, some (.long y4), none, some (.long y6), none, some (.long y8), none, some (.int y10), some (.int y11), none]) (st := []) (c1 := 0) (s1 := 0) (g := (ab_G mi ml)) rfl ⟨trivial, trivial, trivial⟩ hc ?_
      refine ab_wk 10 (f' := (57, [some (.ref 5), some (.int y1), some (.long y2), none, some (.long y4), none, some (.long (y6 &&& (ml2 5 2))), none, some (.long (y8 &&& (ml2 5 3))), none, some (.int y10), some (.int y11), none], [], 0, 0, (ab_G mi1 ml2))) rfl ⟨trivial, trivial, trivial, trivial, trivial, trivial, trivial, trivial, trivial, trivial, trivial⟩ ?_
      refine ab_wk 3 (f' := (if (mi1 5 1) = 0 then 64 else 80, [some (.ref 5), some (.int y1), some (.long y2), none, some (.long y4), none, some (.long (y6 &&& (ml2 5 2))), none, some (.long (y8 &&& (ml2 5 3))), none, some (.int y10), some (.int y11), none], [], 0, 0, (ab_G mi1 ml2))) rfl ⟨trivial, trivial, trivial, trivial⟩ ?_
      refine ab_wi (fun c => ?_) (fun c => ?_)
      · have h := h.1 c
        obtain ⟨r5, mi3, ml4, hc, h⟩ := h
        refine ab_wc 4 (c := 86) (as := [.ref 2, .ref 1000008]) (pc := 73) (ll := [some (.ref 5), some (.int y1), some (.long y2), none, some (.long y4), none, some (.long (y6 &&& (ml2 5 2))), none, some (.long (y8 &&& (ml2 5 3))), none, some (.int y10), some (.int y11), none]) (st := []) (c1 := 0) (s1 := 0) (g := (ab_G mi1 ml2)) rfl ⟨trivial, trivial, trivial, trivial⟩ hc ?_
        refine ab_wk 1 (f' := (if r5 = 0 then 80 else 76, [some (.ref 5), some (.int y1), some (.long y2), none, some (.long y4), none, some (.long (y6 &&& (ml2 5 2))), none, some (.long (y8 &&& (ml2 5 3))), none, some (.int y10), some (.int y11), none], [], 0, 0, (ab_G mi3 ml4))) rfl ⟨trivial, trivial⟩ ?_
        refine ab_wi (fun c => ?_) (fun c => ?_)
        · have h := h.1 c
          refine ab_wk 4 (f' := (if (0 : Int32) = 0 then 88 else 110, [some (.ref 5), some (.int y1), some (.long y2), none, some (.long y4), none, some (.long (y6 &&& (ml2 5 2))), none, some (.long (y8 &&& (ml2 5 3))), none, some (.int y10), some (.int y11), some (.int 0)], [], 0, 0, (ab_G mi3 ml4))) rfl ⟨trivial, trivial, trivial, trivial, trivial⟩ ?_
          refine ab_wit (c := ((0 : Int32) = 0)) (by decide) ?_
          refine ab_wk 8 (f' := (100, [some (.ref 5), some (.int y1), some (.long (y2 ||| (y6 &&& (ml2 5 2)))), none, some (.long (y4 ||| (y8 &&& (ml2 5 3)))), none, some (.long (y6 &&& (ml2 5 2))), none, some (.long (y8 &&& (ml2 5 3))), none, some (.int y10), some (.int y11), some (.int 0)], [], 0, 0, (ab_G mi3 ml4))) rfl ⟨trivial, trivial, trivial, trivial, trivial, trivial, trivial, trivial, trivial⟩ ?_
          refine ab_wk 4 (f' := (110, [some (.ref 5), some (.int y1), some (.long (y2 ||| (y6 &&& (ml2 5 2)))), none, some (.long (y4 ||| (y8 &&& (ml2 5 3)))), none, some (.long (-1)), none, some (.long (-1)), none, some (.int y10), some (.int y11), some (.int 0)], [], 0, 0, (ab_G mi3 ml4))) rfl ⟨trivial, trivial, trivial, trivial, trivial⟩ ?_
          refine ab_wk 2 (f' := (if (0 : Int32) = 0 then 115 else 134, [some (.ref 5), some (.int y1), some (.long (y2 ||| (y6 &&& (ml2 5 2)))), none, some (.long (y4 ||| (y8 &&& (ml2 5 3)))), none, some (.long (-1)), none, some (.long (-1)), none, some (.int y10), some (.int y11), some (.int 0)], [], 0, 0, (ab_G mi3 ml4))) rfl ⟨trivial, trivial, trivial⟩ ?_
          refine ab_wit (c := ((0 : Int32) = 0)) (by decide) ?_
          refine ab_wk 3 (f' := (if (mi3 5 1) = 0 then 122 else 138, [some (.ref 5), some (.int y1), some (.long (y2 ||| (y6 &&& (ml2 5 2)))), none, some (.long (y4 ||| (y8 &&& (ml2 5 3)))), none, some (.long (-1)), none, some (.long (-1)), none, some (.int y10), some (.int y11), some (.int 0)], [], 0, 0, (ab_G mi3 ml4))) rfl ⟨trivial, trivial, trivial, trivial⟩ ?_
          refine ab_wi (fun c => ?_) (fun c => ?_)
          · have h := h.1 c
            obtain ⟨r8, mi6, ml7, hc, h⟩ := h
            refine ab_wc 4 (c := 86) (as := [.ref 2, .ref 1000007]) (pc := 131) (ll := [some (.ref 5), some (.int y1), some (.long (y2 ||| (y6 &&& (ml2 5 2)))), none, some (.long (y4 ||| (y8 &&& (ml2 5 3)))), none, some (.long (-1)), none, some (.long (-1)), none, some (.int y10), some (.int y11), some (.int 0)]) (st := []) (c1 := 0) (s1 := 0) (g := (ab_G mi3 ml4)) rfl ⟨trivial, trivial, trivial, trivial⟩ hc ?_
            refine ab_wk 1 (f' := (if r8 = 0 then 138 else 134, [some (.ref 5), some (.int y1), some (.long (y2 ||| (y6 &&& (ml2 5 2)))), none, some (.long (y4 ||| (y8 &&& (ml2 5 3)))), none, some (.long (-1)), none, some (.long (-1)), none, some (.int y10), some (.int y11), some (.int 0)], [], 0, 0, (ab_G mi6 ml7))) rfl ⟨trivial, trivial⟩ ?_
            refine ab_wi (fun c => ?_) (fun c => ?_)
            · have h := h.1 c
              refine ab_wk 4 (f' := (if (0 : Int32) = 0 then 153 else 146, [some (.ref 5), some (.int y1), some (.long (y2 ||| (y6 &&& (ml2 5 2)))), none, some (.long (y4 ||| (y8 &&& (ml2 5 3)))), none, some (.long (-1)), none, some (.long (-1)), none, some (.int 0), some (.int y11), some (.int 0)], [], 0, 0, (ab_G mi6 ml7))) rfl ⟨trivial, trivial, trivial, trivial, trivial⟩ ?_
              refine ab_wit (c := ((0 : Int32) = 0)) (by decide) ?_
              exact ab_wk 2 (f' := (21, [some (.ref 5), some (.int y1), some (.long (y2 ||| (y6 &&& (ml2 5 2)))), none, some (.long (y4 ||| (y8 &&& (ml2 5 3)))), none, some (.long (-1)), none, some (.long (-1)), none, some (.int 0), some (.int (y11 + 1)), some (.int 0)], [], 0, 0, (ab_G mi6 ml7))) rfl ⟨trivial, trivial, trivial⟩ (ab_drop h (ab_lrc _ (ab_lrc _ (ab_lrc _ (ab_lrc _ (ab_lrc _ (ab_lrc _ (ab_lrc _ (ab_lrc _ (ab_lrc _ (ab_lrc _ (ab_lrc _ (ab_lrc _ (ab_lrn _ ab_lr0))))))))))))))
            · have h := h.2 c
              refine ab_wk 5 (f' := (if (1 : Int32) = 0 then 153 else 146, [some (.ref 5), some (.int y1), some (.long (y2 ||| (y6 &&& (ml2 5 2)))), none, some (.long (y4 ||| (y8 &&& (ml2 5 3)))), none, some (.long (-1)), none, some (.long (-1)), none, some (.int 1), some (.int y11), some (.int 0)], [], 0, 0, (ab_G mi6 ml7))) rfl ⟨trivial, trivial, trivial, trivial, trivial, trivial⟩ ?_
              refine ab_wif (c := ((1 : Int32) = 0)) (by decide) ?_
              obtain ⟨mi9, ml10, hc, h⟩ := h
              refine ab_wc 3 (c := 85) (as := [.ref 2]) (pc := 153) (ll := [some (.ref 5), some (.int y1), some (.long (y2 ||| (y6 &&& (ml2 5 2)))), none, some (.long (y4 ||| (y8 &&& (ml2 5 3)))), none, some (.long (-1)), none, some (.long (-1)), none, some (.int 1), some (.int y11), some (.int 0)]) (st := []) (c1 := 0) (s1 := 0) (g := (ab_G mi6 ml7)) rfl ⟨trivial, trivial, trivial⟩ hc ?_
              exact ab_wk 2 (f' := (21, [some (.ref 5), some (.int y1), some (.long (y2 ||| (y6 &&& (ml2 5 2)))), none, some (.long (y4 ||| (y8 &&& (ml2 5 3)))), none, some (.long (-1)), none, some (.long (-1)), none, some (.int 1), some (.int (y11 + 1)), some (.int 0)], [], 0, 0, (ab_G mi9 ml10))) rfl ⟨trivial, trivial, trivial⟩ (ab_drop h (ab_lrc _ (ab_lrc _ (ab_lrc _ (ab_lrc _ (ab_lrc _ (ab_lrc _ (ab_lrc _ (ab_lrc _ (ab_lrc _ (ab_lrc _ (ab_lrc _ (ab_lrc _ (ab_lrn _ ab_lr0))))))))))))))
          · have h := h.2 c
            refine ab_wk 4 (f' := (if (0 : Int32) = 0 then 153 else 146, [some (.ref 5), some (.int y1), some (.long (y2 ||| (y6 &&& (ml2 5 2)))), none, some (.long (y4 ||| (y8 &&& (ml2 5 3)))), none, some (.long (-1)), none, some (.long (-1)), none, some (.int 0), some (.int y11), some (.int 0)], [], 0, 0, (ab_G mi3 ml4))) rfl ⟨trivial, trivial, trivial, trivial, trivial⟩ ?_
            refine ab_wit (c := ((0 : Int32) = 0)) (by decide) ?_
            exact ab_wk 2 (f' := (21, [some (.ref 5), some (.int y1), some (.long (y2 ||| (y6 &&& (ml2 5 2)))), none, some (.long (y4 ||| (y8 &&& (ml2 5 3)))), none, some (.long (-1)), none, some (.long (-1)), none, some (.int 0), some (.int (y11 + 1)), some (.int 0)], [], 0, 0, (ab_G mi3 ml4))) rfl ⟨trivial, trivial, trivial⟩ (ab_drop h (ab_lrc _ (ab_lrc _ (ab_lrc _ (ab_lrc _ (ab_lrc _ (ab_lrc _ (ab_lrc _ (ab_lrc _ (ab_lrc _ (ab_lrc _ (ab_lrc _ (ab_lrc _ (ab_lrn _ ab_lr0))))))))))))))
        · have h := h.2 c
          refine ab_wk 5 (f' := (if (1 : Int32) = 0 then 88 else 110, [some (.ref 5), some (.int y1), some (.long y2), none, some (.long y4), none, some (.long (y6 &&& (ml2 5 2))), none, some (.long (y8 &&& (ml2 5 3))), none, some (.int y10), some (.int y11), some (.int 1)], [], 0, 0, (ab_G mi3 ml4))) rfl ⟨trivial, trivial, trivial, trivial, trivial, trivial⟩ ?_
          refine ab_wif (c := ((1 : Int32) = 0)) (by decide) ?_
          refine ab_wk 2 (f' := (if (1 : Int32) = 0 then 115 else 134, [some (.ref 5), some (.int y1), some (.long y2), none, some (.long y4), none, some (.long (y6 &&& (ml2 5 2))), none, some (.long (y8 &&& (ml2 5 3))), none, some (.int y10), some (.int y11), some (.int 1)], [], 0, 0, (ab_G mi3 ml4))) rfl ⟨trivial, trivial, trivial⟩ ?_
          refine ab_wif (c := ((1 : Int32) = 0)) (by decide) ?_
          refine ab_wk 5 (f' := (if (1 : Int32) = 0 then 153 else 146, [some (.ref 5), some (.int y1), some (.long y2), none, some (.long y4), none, some (.long (y6 &&& (ml2 5 2))), none, some (.long (y8 &&& (ml2 5 3))), none, some (.int 1), some (.int y11), some (.int 1)], [], 0, 0, (ab_G mi3 ml4))) rfl ⟨trivial, trivial, trivial, trivial, trivial, trivial⟩ ?_
          refine ab_wif (c := ((1 : Int32) = 0)) (by decide) ?_
          obtain ⟨mi11, ml12, hc, h⟩ := h
          refine ab_wc 3 (c := 85) (as := [.ref 2]) (pc := 153) (ll := [some (.ref 5), some (.int y1), some (.long y2), none, some (.long y4), none, some (.long (y6 &&& (ml2 5 2))), none, some (.long (y8 &&& (ml2 5 3))), none, some (.int 1), some (.int y11), some (.int 1)]) (st := []) (c1 := 0) (s1 := 0) (g := (ab_G mi3 ml4)) rfl ⟨trivial, trivial, trivial⟩ hc ?_
          exact ab_wk 2 (f' := (21, [some (.ref 5), some (.int y1), some (.long y2), none, some (.long y4), none, some (.long (y6 &&& (ml2 5 2))), none, some (.long (y8 &&& (ml2 5 3))), none, some (.int 1), some (.int (y11 + 1)), some (.int 1)], [], 0, 0, (ab_G mi11 ml12))) rfl ⟨trivial, trivial, trivial⟩ (ab_drop h (ab_lrc _ (ab_lrc _ (ab_lrc _ (ab_lrc _ (ab_lrc _ (ab_lrc _ (ab_lrc _ (ab_lrc _ (ab_lrc _ (ab_lrc _ (ab_lrc _ (ab_lrc _ (ab_lrn _ ab_lr0))))))))))))))
      · have h := h.2 c
        refine ab_wk 4 (f' := (if (0 : Int32) = 0 then 88 else 110, [some (.ref 5), some (.int y1), some (.long y2), none, some (.long y4), none, some (.long (y6 &&& (ml2 5 2))), none, some (.long (y8 &&& (ml2 5 3))), none, some (.int y10), some (.int y11), some (.int 0)], [], 0, 0, (ab_G mi1 ml2))) rfl ⟨trivial, trivial, trivial, trivial, trivial⟩ ?_
        refine ab_wit (c := ((0 : Int32) = 0)) (by decide) ?_
        refine ab_wk 8 (f' := (100, [some (.ref 5), some (.int y1), some (.long (y2 ||| (y6 &&& (ml2 5 2)))), none, some (.long (y4 ||| (y8 &&& (ml2 5 3)))), none, some (.long (y6 &&& (ml2 5 2))), none, some (.long (y8 &&& (ml2 5 3))), none, some (.int y10), some (.int y11), some (.int 0)], [], 0, 0, (ab_G mi1 ml2))) rfl ⟨trivial, trivial, trivial, trivial, trivial, trivial, trivial, trivial, trivial⟩ ?_
        refine ab_wk 4 (f' := (110, [some (.ref 5), some (.int y1), some (.long (y2 ||| (y6 &&& (ml2 5 2)))), none, some (.long (y4 ||| (y8 &&& (ml2 5 3)))), none, some (.long (-1)), none, some (.long (-1)), none, some (.int y10), some (.int y11), some (.int 0)], [], 0, 0, (ab_G mi1 ml2))) rfl ⟨trivial, trivial, trivial, trivial, trivial⟩ ?_
        refine ab_wk 2 (f' := (if (0 : Int32) = 0 then 115 else 134, [some (.ref 5), some (.int y1), some (.long (y2 ||| (y6 &&& (ml2 5 2)))), none, some (.long (y4 ||| (y8 &&& (ml2 5 3)))), none, some (.long (-1)), none, some (.long (-1)), none, some (.int y10), some (.int y11), some (.int 0)], [], 0, 0, (ab_G mi1 ml2))) rfl ⟨trivial, trivial, trivial⟩ ?_
        refine ab_wit (c := ((0 : Int32) = 0)) (by decide) ?_
        refine ab_wk 3 (f' := (if (mi1 5 1) = 0 then 122 else 138, [some (.ref 5), some (.int y1), some (.long (y2 ||| (y6 &&& (ml2 5 2)))), none, some (.long (y4 ||| (y8 &&& (ml2 5 3)))), none, some (.long (-1)), none, some (.long (-1)), none, some (.int y10), some (.int y11), some (.int 0)], [], 0, 0, (ab_G mi1 ml2))) rfl ⟨trivial, trivial, trivial, trivial⟩ ?_
        refine ab_wi (fun c => ?_) (fun c => ?_)
        · have h := h.1 c
          obtain ⟨r15, mi13, ml14, hc, h⟩ := h
          refine ab_wc 4 (c := 86) (as := [.ref 2, .ref 1000007]) (pc := 131) (ll := [some (.ref 5), some (.int y1), some (.long (y2 ||| (y6 &&& (ml2 5 2)))), none, some (.long (y4 ||| (y8 &&& (ml2 5 3)))), none, some (.long (-1)), none, some (.long (-1)), none, some (.int y10), some (.int y11), some (.int 0)]) (st := []) (c1 := 0) (s1 := 0) (g := (ab_G mi1 ml2)) rfl ⟨trivial, trivial, trivial, trivial⟩ hc ?_
          refine ab_wk 1 (f' := (if r15 = 0 then 138 else 134, [some (.ref 5), some (.int y1), some (.long (y2 ||| (y6 &&& (ml2 5 2)))), none, some (.long (y4 ||| (y8 &&& (ml2 5 3)))), none, some (.long (-1)), none, some (.long (-1)), none, some (.int y10), some (.int y11), some (.int 0)], [], 0, 0, (ab_G mi13 ml14))) rfl ⟨trivial, trivial⟩ ?_
          refine ab_wi (fun c => ?_) (fun c => ?_)
          · have h := h.1 c
            refine ab_wk 4 (f' := (if (0 : Int32) = 0 then 153 else 146, [some (.ref 5), some (.int y1), some (.long (y2 ||| (y6 &&& (ml2 5 2)))), none, some (.long (y4 ||| (y8 &&& (ml2 5 3)))), none, some (.long (-1)), none, some (.long (-1)), none, some (.int 0), some (.int y11), some (.int 0)], [], 0, 0, (ab_G mi13 ml14))) rfl ⟨trivial, trivial, trivial, trivial, trivial⟩ ?_
            refine ab_wit (c := ((0 : Int32) = 0)) (by decide) ?_
            exact ab_wk 2 (f' := (21, [some (.ref 5), some (.int y1), some (.long (y2 ||| (y6 &&& (ml2 5 2)))), none, some (.long (y4 ||| (y8 &&& (ml2 5 3)))), none, some (.long (-1)), none, some (.long (-1)), none, some (.int 0), some (.int (y11 + 1)), some (.int 0)], [], 0, 0, (ab_G mi13 ml14))) rfl ⟨trivial, trivial, trivial⟩ (ab_drop h (ab_lrc _ (ab_lrc _ (ab_lrc _ (ab_lrc _ (ab_lrc _ (ab_lrc _ (ab_lrc _ (ab_lrc _ (ab_lrc _ (ab_lrc _ (ab_lrc _ (ab_lrc _ (ab_lrn _ ab_lr0))))))))))))))
          · have h := h.2 c
            refine ab_wk 5 (f' := (if (1 : Int32) = 0 then 153 else 146, [some (.ref 5), some (.int y1), some (.long (y2 ||| (y6 &&& (ml2 5 2)))), none, some (.long (y4 ||| (y8 &&& (ml2 5 3)))), none, some (.long (-1)), none, some (.long (-1)), none, some (.int 1), some (.int y11), some (.int 0)], [], 0, 0, (ab_G mi13 ml14))) rfl ⟨trivial, trivial, trivial, trivial, trivial, trivial⟩ ?_
            refine ab_wif (c := ((1 : Int32) = 0)) (by decide) ?_
            obtain ⟨mi16, ml17, hc, h⟩ := h
            refine ab_wc 3 (c := 85) (as := [.ref 2]) (pc := 153) (ll := [some (.ref 5), some (.int y1), some (.long (y2 ||| (y6 &&& (ml2 5 2)))), none, some (.long (y4 ||| (y8 &&& (ml2 5 3)))), none, some (.long (-1)), none, some (.long (-1)), none, some (.int 1), some (.int y11), some (.int 0)]) (st := []) (c1 := 0) (s1 := 0) (g := (ab_G mi13 ml14)) rfl ⟨trivial, trivial, trivial⟩ hc ?_
            exact ab_wk 2 (f' := (21, [some (.ref 5), some (.int y1), some (.long (y2 ||| (y6 &&& (ml2 5 2)))), none, some (.long (y4 ||| (y8 &&& (ml2 5 3)))), none, some (.long (-1)), none, some (.long (-1)), none, some (.int 1), some (.int (y11 + 1)), some (.int 0)], [], 0, 0, (ab_G mi16 ml17))) rfl ⟨trivial, trivial, trivial⟩ (ab_drop h (ab_lrc _ (ab_lrc _ (ab_lrc _ (ab_lrc _ (ab_lrc _ (ab_lrc _ (ab_lrc _ (ab_lrc _ (ab_lrc _ (ab_lrc _ (ab_lrc _ (ab_lrc _ (ab_lrn _ ab_lr0))))))))))))))
        · have h := h.2 c
          refine ab_wk 4 (f' := (if (0 : Int32) = 0 then 153 else 146, [some (.ref 5), some (.int y1), some (.long (y2 ||| (y6 &&& (ml2 5 2)))), none, some (.long (y4 ||| (y8 &&& (ml2 5 3)))), none, some (.long (-1)), none, some (.long (-1)), none, some (.int 0), some (.int y11), some (.int 0)], [], 0, 0, (ab_G mi1 ml2))) rfl ⟨trivial, trivial, trivial, trivial, trivial⟩ ?_
          refine ab_wit (c := ((0 : Int32) = 0)) (by decide) ?_
          exact ab_wk 2 (f' := (21, [some (.ref 5), some (.int y1), some (.long (y2 ||| (y6 &&& (ml2 5 2)))), none, some (.long (y4 ||| (y8 &&& (ml2 5 3)))), none, some (.long (-1)), none, some (.long (-1)), none, some (.int 0), some (.int (y11 + 1)), some (.int 0)], [], 0, 0, (ab_G mi1 ml2))) rfl ⟨trivial, trivial, trivial⟩ (ab_drop h (ab_lrc _ (ab_lrc _ (ab_lrc _ (ab_lrc _ (ab_lrc _ (ab_lrc _ (ab_lrc _ (ab_lrc _ (ab_lrc _ (ab_lrc _ (ab_lrc _ (ab_lrc _ (ab_lrn _ ab_lr0))))))))))))))
  · have h := h.2 c
    exact ab_wr 7 rfl ⟨trivial, trivial, trivial, trivial, trivial, trivial, trivial⟩ h
theorem vc_X7_part_0 {call : Nat → List Value → ab_S → Option Value → ab_S → Prop} {ro : ab_E} {Q : Option Value → ab_S → Prop} (x1 : Int32) (mi : Nat → Nat → Int32) (ml : Nat → Nat → Int64)
    (h : (((mi 5 1) = 0) → (∃ (r3 : Int32) (mi1 : Nat → Nat → Int32) (ml2 : Nat → Nat → Int64), call 87 [.ref 2] (ab_G mi ml) (some (.int r3)) (ab_G mi1 ml2) ∧ (((r3 = (-1)) → (∃ (r6 : Int32) (mi4 : Nat → Nat → Int32) (ml5 : Nat → Nat → Int64), call 86 [.ref 2, .ref 1000009] (ab_G mi1 ml2) (some (.int r6)) (ab_G mi4 ml5) ∧ (((r6 = 0) → (∃ (r9 : Int32) (mi7 : Nat → Nat → Int32) (ml8 : Nat → Nat → Int64), call 86 [.ref 2, .ref 1000010] (ab_G mi4 ml5) (some (.int r9)) (ab_G mi7 ml8) ∧ (((r9 = 0) → (∃ (r12 : Int32) (mi10 : Nat → Nat → Int32) (ml11 : Nat → Nat → Int64), call 86 [.ref 2, .ref 1000011] (ab_G mi7 ml8) (some (.int r12)) (ab_G mi10 ml11) ∧ (((r12 = 0) → (∃ (r15 : Int32) (mi13 : Nat → Nat → Int32) (ml14 : Nat → Nat → Int64), call 86 [.ref 2, .ref 1000012] (ab_G mi10 ml11) (some (.int r15)) (ab_G mi13 ml14) ∧ (((r15 = 0) → (∃ (r18 : Int32) (mi16 : Nat → Nat → Int32) (ml17 : Nat → Nat → Int64), call 86 [.ref 2, .ref 1000013] (ab_G mi13 ml14) (some (.int r18)) (ab_G mi16 ml17) ∧ (((r18 = 0) → ((((mi16 2 3) = 4) → (((x1 < 6) → (((r18 = 0) → (∃ (mi19 : Nat → Nat → Int32) (ml20 : Nat → Nat → Int64), call 85 [.ref 2] (ab_G mi16 ml17) none (ab_G mi19 ml20) ∧ (∃ (mi21 : Nat → Nat → Int32) (ml22 : Nat → Nat → Int64), call 73 [.ref 5, .int (x1 + 1)] (ab_G mi19 ml20) none (ab_G mi21 ml22) ∧ (∃ (mi23 : Nat → Nat → Int32) (ml24 : Nat → Nat → Int64), call 70 [.ref 5, .int 5] (ab_G mi21 ml22) none (ab_G mi23 ml24) ∧ (Q none (ab_G mi23 ml24)))))) ∧ (¬ (r18 = 0) → (∃ (mi25 : Nat → Nat → Int32) (ml26 : Nat → Nat → Int64), call 85 [.ref 2] (ab_G mi16 ml17) none (ab_G mi25 ml26) ∧ (∃ (mi27 : Nat → Nat → Int32) (ml28 : Nat → Nat → Int64), call 75 [.ref 5, .int (x1 + 1)] (ab_G mi25 ml26) none (ab_G mi27 ml28) ∧ (Q none (ab_G mi27 (ab_ul (ab_ul ml28 5 2 ((ml28 5 2) ^^^ (-1))) 5 3 ((ml28 5 3) ^^^ (-1)))))))))) ∧ (¬ (x1 < 6) → (∃ (mi29 : Nat → Nat → Int32) (ml30 : Nat → Nat → Int64), call 67 [.ref 5, .int 5] (ab_G mi16 ml17) none (ab_G mi29 ml30) ∧ (Q none (ab_G mi29 ml30)))))) ∧ (¬ ((mi16 2 3) = 4) → (∃ (mi31 : Nat → Nat → Int32) (ml32 : Nat → Nat → Int64), call 67 [.ref 5, .int 1] (ab_G mi16 ml17) none (ab_G mi31 ml32) ∧ (Q none (ab_G mi31 ml32)))))) ∧ (¬ (r18 = 0) → (((x1 < 6) → (((r18 = 0) → (∃ (mi33 : Nat → Nat → Int32) (ml34 : Nat → Nat → Int64), call 85 [.ref 2] (ab_G mi16 ml17) none (ab_G mi33 ml34) ∧ (∃ (mi35 : Nat → Nat → Int32) (ml36 : Nat → Nat → Int64), call 73 [.ref 5, .int (x1 + 1)] (ab_G mi33 ml34) none (ab_G mi35 ml36) ∧ (∃ (mi37 : Nat → Nat → Int32) (ml38 : Nat → Nat → Int64), call 70 [.ref 5, .int 5] (ab_G mi35 ml36) none (ab_G mi37 ml38) ∧ (Q none (ab_G mi37 ml38)))))) ∧ (¬ (r18 = 0) → (∃ (mi39 : Nat → Nat → Int32) (ml40 : Nat → Nat → Int64), call 85 [.ref 2] (ab_G mi16 ml17) none (ab_G mi39 ml40) ∧ (∃ (mi41 : Nat → Nat → Int32) (ml42 : Nat → Nat → Int64), call 75 [.ref 5, .int (x1 + 1)] (ab_G mi39 ml40) none (ab_G mi41 ml42) ∧ (Q none (ab_G mi41 (ab_ul (ab_ul ml42 5 2 ((ml42 5 2) ^^^ (-1))) 5 3 ((ml42 5 3) ^^^ (-1)))))))))) ∧ (¬ (x1 < 6) → (∃ (mi43 : Nat → Nat → Int32) (ml44 : Nat → Nat → Int64), call 67 [.ref 5, .int 5] (ab_G mi16 ml17) none (ab_G mi43 ml44) ∧ (Q none (ab_G mi43 ml44))))))))) ∧ (¬ (r15 = 0) → (∃ (r47 : Int32) (mi45 : Nat → Nat → Int32) (ml46 : Nat → Nat → Int64), call 86 [.ref 2, .ref 1000013] (ab_G mi13 ml14) (some (.int r47)) (ab_G mi45 ml46) ∧ (((x1 < 6) → (∃ (mi48 : Nat → Nat → Int32) (ml49 : Nat → Nat → Int64), call 77 [.ref 5] (ab_G mi45 ml46) none (ab_G mi48 ml49) ∧ (Q none (ab_G mi48 ml49)))) ∧ (¬ (x1 < 6) → (∃ (mi50 : Nat → Nat → Int32) (ml51 : Nat → Nat → Int64), call 67 [.ref 5, .int 5] (ab_G mi45 ml46) none (ab_G mi50 ml51) ∧ (Q none (ab_G mi50 ml51)))))))))) ∧ (¬ (r12 = 0) → (∃ (r54 : Int32) (mi52 : Nat → Nat → Int32) (ml53 : Nat → Nat → Int64), call 86 [.ref 2, .ref 1000013] (ab_G mi10 ml11) (some (.int r54)) (ab_G mi52 ml53) ∧ (((x1 < 6) → (∃ (mi55 : Nat → Nat → Int32) (ml56 : Nat → Nat → Int64), call 77 [.ref 5] (ab_G mi52 ml53) none (ab_G mi55 ml56) ∧ (Q none (ab_G mi55 ml56)))) ∧ (¬ (x1 < 6) → (∃ (mi57 : Nat → Nat → Int32) (ml58 : Nat → Nat → Int64), call 67 [.ref 5, .int 5] (ab_G mi52 ml53) none (ab_G mi57 ml58) ∧ (Q none (ab_G mi57 ml58)))))))))) ∧ (¬ (r9 = 0) → (∃ (r61 : Int32) (mi59 : Nat → Nat → Int32) (ml60 : Nat → Nat → Int64), call 86 [.ref 2, .ref 1000011] (ab_G mi7 ml8) (some (.int r61)) (ab_G mi59 ml60) ∧ (((r61 = 0) → (∃ (r64 : Int32) (mi62 : Nat → Nat → Int32) (ml63 : Nat → Nat → Int64), call 86 [.ref 2, .ref 1000012] (ab_G mi59 ml60) (some (.int r64)) (ab_G mi62 ml63) ∧ (((r64 = 0) → (∃ (r67 : Int32) (mi65 : Nat → Nat → Int32) (ml66 : Nat → Nat → Int64), call 86 [.ref 2, .ref 1000013] (ab_G mi62 ml63) (some (.int r67)) (ab_G mi65 ml66) ∧ (((x1 < 6) → (∃ (mi68 : Nat → Nat → Int32) (ml69 : Nat → Nat → Int64), call 76 [.ref 5] (ab_G mi65 ml66) none (ab_G mi68 ml69) ∧ (Q none (ab_G mi68 ml69)))) ∧ (¬ (x1 < 6) → (∃ (mi70 : Nat → Nat → Int32) (ml71 : Nat → Nat → Int64), call 67 [.ref 5, .int 5] (ab_G mi65 ml66) none (ab_G mi70 ml71) ∧ (Q none (ab_G mi70 ml71))))))) ∧ (¬ (r64 = 0) → (∃ (r74 : Int32) (mi72 : Nat → Nat → Int32) (ml73 : Nat → Nat → Int64), call 86 [.ref 2, .ref 1000013] (ab_G mi62 ml63) (some (.int r74)) (ab_G mi72 ml73) ∧ (((x1 < 6) → (∃ (mi75 : Nat → Nat → Int32) (ml76 : Nat → Nat → Int64), call 76 [.ref 5] (ab_G mi72 ml73) none (ab_G mi75 ml76) ∧ (Q none (ab_G mi75 ml76)))) ∧ (¬ (x1 < 6) → (∃ (mi77 : Nat → Nat → Int32) (ml78 : Nat → Nat → Int64), call 67 [.ref 5, .int 5] (ab_G mi72 ml73) none (ab_G mi77 ml78) ∧ (Q none (ab_G mi77 ml78)))))))))) ∧ (¬ (r61 = 0) → (∃ (r81 : Int32) (mi79 : Nat → Nat → Int32) (ml80 : Nat → Nat → Int64), call 86 [.ref 2, .ref 1000013] (ab_G mi59 ml60) (some (.int r81)) (ab_G mi79 ml80) ∧ (((x1 < 6) → (∃ (mi82 : Nat → Nat → Int32) (ml83 : Nat → Nat → Int64), call 76 [.ref 5] (ab_G mi79 ml80) none (ab_G mi82 ml83) ∧ (Q none (ab_G mi82 ml83)))) ∧ (¬ (x1 < 6) → (∃ (mi84 : Nat → Nat → Int32) (ml85 : Nat → Nat → Int64), call 67 [.ref 5, .int 5] (ab_G mi79 ml80) none (ab_G mi84 ml85) ∧ (Q none (ab_G mi84 ml85))))))))))))) ∧ (¬ (r6 = 0) → (∃ (r88 : Int32) (mi86 : Nat → Nat → Int32) (ml87 : Nat → Nat → Int64), call 86 [.ref 2, .ref 1000011] (ab_G mi4 ml5) (some (.int r88)) (ab_G mi86 ml87) ∧ (((r88 = 0) → (∃ (r91 : Int32) (mi89 : Nat → Nat → Int32) (ml90 : Nat → Nat → Int64), call 86 [.ref 2, .ref 1000012] (ab_G mi86 ml87) (some (.int r91)) (ab_G mi89 ml90) ∧ (((r91 = 0) → (∃ (r94 : Int32) (mi92 : Nat → Nat → Int32) (ml93 : Nat → Nat → Int64), call 86 [.ref 2, .ref 1000013] (ab_G mi89 ml90) (some (.int r94)) (ab_G mi92 ml93) ∧ (((x1 < 6) → (∃ (mi95 : Nat → Nat → Int32) (ml96 : Nat → Nat → Int64), call 76 [.ref 5] (ab_G mi92 ml93) none (ab_G mi95 ml96) ∧ (Q none (ab_G mi95 ml96)))) ∧ (¬ (x1 < 6) → (∃ (mi97 : Nat → Nat → Int32) (ml98 : Nat → Nat → Int64), call 67 [.ref 5, .int 5] (ab_G mi92 ml93) none (ab_G mi97 ml98) ∧ (Q none (ab_G mi97 ml98))))))) ∧ (¬ (r91 = 0) → (∃ (r101 : Int32) (mi99 : Nat → Nat → Int32) (ml100 : Nat → Nat → Int64), call 86 [.ref 2, .ref 1000013] (ab_G mi89 ml90) (some (.int r101)) (ab_G mi99 ml100) ∧ (((x1 < 6) → (∃ (mi102 : Nat → Nat → Int32) (ml103 : Nat → Nat → Int64), call 76 [.ref 5] (ab_G mi99 ml100) none (ab_G mi102 ml103) ∧ (Q none (ab_G mi102 ml103)))) ∧ (¬ (x1 < 6) → (∃ (mi104 : Nat → Nat → Int32) (ml105 : Nat → Nat → Int64), call 67 [.ref 5, .int 5] (ab_G mi99 ml100) none (ab_G mi104 ml105) ∧ (Q none (ab_G mi104 ml105)))))))))) ∧ (¬ (r88 = 0) → (∃ (r108 : Int32) (mi106 : Nat → Nat → Int32) (ml107 : Nat → Nat → Int64), call 86 [.ref 2, .ref 1000013] (ab_G mi86 ml87) (some (.int r108)) (ab_G mi106 ml107) ∧ (((x1 < 6) → (∃ (mi109 : Nat → Nat → Int32) (ml110 : Nat → Nat → Int64), call 76 [.ref 5] (ab_G mi106 ml107) none (ab_G mi109 ml110) ∧ (Q none (ab_G mi109 ml110)))) ∧ (¬ (x1 < 6) → (∃ (mi111 : Nat → Nat → Int32) (ml112 : Nat → Nat → Int64), call 67 [.ref 5, .int 5] (ab_G mi106 ml107) none (ab_G mi111 ml112) ∧ (Q none (ab_G mi111 ml112))))))))))))) ∧ (¬ (r3 = (-1)) → (∃ (r115 : Int32) (mi113 : Nat → Nat → Int32) (ml114 : Nat → Nat → Int64), call 86 [.ref 2, .ref 1000011] (ab_G mi1 ml2) (some (.int r115)) (ab_G mi113 ml114) ∧ (((r115 = 0) → (∃ (r118 : Int32) (mi116 : Nat → Nat → Int32) (ml117 : Nat → Nat → Int64), call 86 [.ref 2, .ref 1000012] (ab_G mi113 ml114) (some (.int r118)) (ab_G mi116 ml117) ∧ (((r118 = 0) → (∃ (r121 : Int32) (mi119 : Nat → Nat → Int32) (ml120 : Nat → Nat → Int64), call 86 [.ref 2, .ref 1000013] (ab_G mi116 ml117) (some (.int r121)) (ab_G mi119 ml120) ∧ (((x1 < 6) → (∃ (mi122 : Nat → Nat → Int32) (ml123 : Nat → Nat → Int64), call 76 [.ref 5] (ab_G mi119 ml120) none (ab_G mi122 ml123) ∧ (Q none (ab_G mi122 ml123)))) ∧ (¬ (x1 < 6) → (∃ (mi124 : Nat → Nat → Int32) (ml125 : Nat → Nat → Int64), call 67 [.ref 5, .int 5] (ab_G mi119 ml120) none (ab_G mi124 ml125) ∧ (Q none (ab_G mi124 ml125))))))) ∧ (¬ (r118 = 0) → (∃ (r128 : Int32) (mi126 : Nat → Nat → Int32) (ml127 : Nat → Nat → Int64), call 86 [.ref 2, .ref 1000013] (ab_G mi116 ml117) (some (.int r128)) (ab_G mi126 ml127) ∧ (((x1 < 6) → (∃ (mi129 : Nat → Nat → Int32) (ml130 : Nat → Nat → Int64), call 76 [.ref 5] (ab_G mi126 ml127) none (ab_G mi129 ml130) ∧ (Q none (ab_G mi129 ml130)))) ∧ (¬ (x1 < 6) → (∃ (mi131 : Nat → Nat → Int32) (ml132 : Nat → Nat → Int64), call 67 [.ref 5, .int 5] (ab_G mi126 ml127) none (ab_G mi131 ml132) ∧ (Q none (ab_G mi131 ml132)))))))))) ∧ (¬ (r115 = 0) → (∃ (r135 : Int32) (mi133 : Nat → Nat → Int32) (ml134 : Nat → Nat → Int64), call 86 [.ref 2, .ref 1000013] (ab_G mi113 ml114) (some (.int r135)) (ab_G mi133 ml134) ∧ (((x1 < 6) → (∃ (mi136 : Nat → Nat → Int32) (ml137 : Nat → Nat → Int64), call 76 [.ref 5] (ab_G mi133 ml134) none (ab_G mi136 ml137) ∧ (Q none (ab_G mi136 ml137)))) ∧ (¬ (x1 < 6) → (∃ (mi138 : Nat → Nat → Int32) (ml139 : Nat → Nat → Int64), call 67 [.ref 5, .int 5] (ab_G mi133 ml134) none (ab_G mi138 ml139) ∧ (Q none (ab_G mi138 ml139))))))))))))) ∧ (¬ ((mi 5 1) = 0) → (Q none (ab_G mi ml)))) :
    ab_W call ro 0 0 (ab_lk2 pl_X7_part) Q (0, [some (.ref 5), some (.int x1), none, none, none], [], 0, 0, ab_G mi ml) := by
  refine ab_wk 3 (f' := (if (mi 5 1) = 0 then 8 else 7, [some (.ref 5), some (.int x1), none, none, none], [], 0, 0, (ab_G mi ml))) rfl ⟨trivial, trivial, trivial, trivial⟩ ?_
  refine ab_wi (fun c => ?_) (fun c => ?_)
  · have h := h.1 c
    obtain ⟨r3, mi1, ml2, hc, h⟩ := h
    refine ab_wc 3 (c := 87) (as := [.ref 2]) (pc := 15) (ll := [some (.ref 5), some (.int x1), none, none, none]) (st := []) (c1 := 0) (s1 := 0) (g := (ab_G mi ml)) rfl ⟨trivial, trivial, trivial⟩ hc ?_
    refine ab_wk 2 (f' := (if r3 = (-1) then 19 else 43, [some (.ref 5), some (.int x1), none, none, none], [], 0, 0, (ab_G mi1 ml2))) rfl ⟨trivial, trivial, trivial⟩ ?_
    refine ab_wi (fun c => ?_) (fun c => ?_)
    · have h := h.1 c
      obtain ⟨r6, mi4, ml5, hc, h⟩ := h
      refine ab_wc 4 (c := 86) (as := [.ref 2, .ref 1000009]) (pc := 28) (ll := [some (.ref 5), some (.int x1), none, none, none]) (st := []) (c1 := 0) (s1 := 0) (g := (ab_G mi1 ml2)) rfl ⟨trivial, trivial, trivial, trivial⟩ hc ?_
      refine ab_wk 1 (f' := (if r6 = 0 then 31 else 43, [some (.ref 5), some (.int x1), none, none, none], [], 0, 0, (ab_G mi4 ml5))) rfl ⟨trivial, trivial⟩ ?_
      refine ab_wi (fun c => ?_) (fun c => ?_)
      · have h := h.1 c
        obtain ⟨r9, mi7, ml8, hc, h⟩ := h
        refine ab_wc 4 (c := 86) (as := [.ref 2, .ref 1000010]) (pc := 40) (ll := [some (.ref 5), some (.int x1), none, none, none]) (st := []) (c1 := 0) (s1 := 0) (g := (ab_G mi4 ml5)) rfl ⟨trivial, trivial, trivial, trivial⟩ hc ?_
        refine ab_wk 1 (f' := (if r9 = 0 then 47 else 43, [some (.ref 5), some (.int x1), none, none, none], [], 0, 0, (ab_G mi7 ml8))) rfl ⟨trivial, trivial⟩ ?_
        refine ab_wi (fun c => ?_) (fun c => ?_)
        · have h := h.1 c
          obtain ⟨r12, mi10, ml11, hc, h⟩ := h
          refine ab_wc 6 (c := 86) (as := [.ref 2, .ref 1000011]) (pc := 58) (ll := [some (.ref 5), some (.int x1), some (.int 0), none, none]) (st := []) (c1 := 0) (s1 := 0) (g := (ab_G mi7 ml8)) rfl ⟨trivial, trivial, trivial, trivial, trivial, trivial⟩ hc ?_
          refine ab_wk 1 (f' := (if r12 = 0 then 61 else 73, [some (.ref 5), some (.int x1), some (.int 0), none, none], [], 0, 0, (ab_G mi10 ml11))) rfl ⟨trivial, trivial⟩ ?_
          refine ab_wi (fun c => ?_) (fun c => ?_)
          · have h := h.1 c
            obtain ⟨r15, mi13, ml14, hc, h⟩ := h
            refine ab_wc 4 (c := 86) (as := [.ref 2, .ref 1000012]) (pc := 70) (ll := [some (.ref 5), some (.int x1), some (.int 0), none, none]) (st := []) (c1 := 0) (s1 := 0) (g := (ab_G mi10 ml11)) rfl ⟨trivial, trivial, trivial, trivial⟩ hc ?_
            refine ab_wk 1 (f' := (if r15 = 0 then 77 else 73, [some (.ref 5), some (.int x1), some (.int 0), none, none], [], 0, 0, (ab_G mi13 ml14))) rfl ⟨trivial, trivial⟩ ?_
            refine ab_wi (fun c => ?_) (fun c => ?_)
            · have h := h.1 c
              obtain ⟨r18, mi16, ml17, hc, h⟩ := h
              refine ab_wc 6 (c := 86) (as := [.ref 2, .ref 1000013]) (pc := 88) (ll := [some (.ref 5), some (.int x1), some (.int 0), some (.int 0), none]) (st := []) (c1 := 0) (s1 := 0) (g := (ab_G mi13 ml14)) rfl ⟨trivial, trivial, trivial, trivial, trivial, trivial⟩ hc ?_
              refine ab_wk 3 (f' := (if (0 : Int32) = 0 then 94 else 122, [some (.ref 5), some (.int x1), some (.int 0), some (.int 0), some (.int r18)], [], 0, 0, (ab_G mi16 ml17))) rfl ⟨trivial, trivial, trivial, trivial⟩ ?_
              refine ab_wit (c := ((0 : Int32) = 0)) (by decide) ?_
              refine ab_wk 2 (f' := (if (0 : Int32) = 0 then 98 else 122, [some (.ref 5), some (.int x1), some (.int 0), some (.int 0), some (.int r18)], [], 0, 0, (ab_G mi16 ml17))) rfl ⟨trivial, trivial, trivial⟩ ?_
              refine ab_wit (c := ((0 : Int32) = 0)) (by decide) ?_
              refine ab_wk 2 (f' := (if r18 = 0 then 103 else 122, [some (.ref 5), some (.int x1), some (.int 0), some (.int 0), some (.int r18)], [], 0, 0, (ab_G mi16 ml17))) rfl ⟨trivial, trivial, trivial⟩ ?_
              refine ab_wi (fun c => ?_) (fun c => ?_)
              · have h := h.1 c
                refine ab_wk 5 (f' := (if (mi16 2 3) = 4 then 122 else 114, [some (.ref 5), some (.int x1), some (.int 0), some (.int 0), some (.int r18)], [], 0, 0, (ab_G mi16 ml17))) rfl ⟨trivial, trivial, trivial, trivial, trivial, trivial⟩ ?_
                refine ab_wi (fun c => ?_) (fun c => ?_)
                · have h := h.1 c
                  refine ab_wk 3 (f' := (if x1 < 6 then 136 else 128, [some (.ref 5), some (.int x1), some (.int 0), some (.int 0), some (.int r18)], [], 0, 0, (ab_G mi16 ml17))) rfl ⟨trivial, trivial, trivial, trivial⟩ ?_
                  refine ab_wi (fun c => ?_) (fun c => ?_)
                  · have h := h.1 c
                    refine ab_wk 2 (f' := (if (0 : Int32) = 0 then 147 else 140, [some (.ref 5), some (.int x1), some (.int 0), some (.int 0), some (.int r18)], [], 0, 0, (ab_G mi16 ml17))) rfl ⟨trivial, trivial, trivial⟩ ?_
                    refine ab_wit (c := ((0 : Int32) = 0)) (by decide) ?_
                    refine ab_wk 2 (f' := (if (0 : Int32) = 0 then 158 else 151, [some (.ref 5), some (.int x1), some (.int 0), some (.int 0), some (.int r18)], [], 0, 0, (ab_G mi16 ml17))) rfl ⟨trivial, trivial, trivial⟩ ?_
                    refine ab_wit (c := ((0 : Int32) = 0)) (by decide) ?_
                    refine ab_wk 2 (f' := (if r18 = 0 then 204 else 163, [some (.ref 5), some (.int x1), some (.int 0), some (.int 0), some (.int r18)], [], 0, 0, (ab_G mi16 ml17))) rfl ⟨trivial, trivial, trivial⟩ ?_
                    refine ab_wi (fun c => ?_) (fun c => ?_)
                    · have h := h.1 c
                      obtain ⟨mi19, ml20, hc, h⟩ := h
                      refine ab_wc 3 (c := 85) (as := [.ref 2]) (pc := 211) (ll := [some (.ref 5), some (.int x1), some (.int 0), some (.int 0), some (.int r18)]) (st := []) (c1 := 0) (s1 := 0) (g := (ab_G mi16 ml17)) rfl ⟨trivial, trivial, trivial⟩ hc ?_
                      obtain ⟨mi21, ml22, hc, h⟩ := h
                      refine ab_wc 5 (c := 73) (as := [.ref 5, .int (x1 + 1)]) (pc := 218) (ll := [some (.ref 5), some (.int x1), some (.int 0), some (.int 0), some (.int r18)]) (st := []) (c1 := 0) (s1 := 0) (g := (ab_G mi19 ml20)) rfl ⟨trivial, trivial, trivial, trivial, trivial⟩ hc ?_
                      obtain ⟨mi23, ml24, hc, h⟩ := h
                      refine ab_wc 3 (c := 70) (as := [.ref 5, .int 5]) (pc := 223) (ll := [some (.ref 5), some (.int x1), some (.int 0), some (.int 0), some (.int r18)]) (st := []) (c1 := 0) (s1 := 0) (g := (ab_G mi21 ml22)) rfl ⟨trivial, trivial, trivial⟩ hc ?_
                      exact ab_wr 1 rfl trivial h
                    · have h := h.2 c
                      obtain ⟨mi25, ml26, hc, h⟩ := h
                      refine ab_wc 3 (c := 85) (as := [.ref 2]) (pc := 170) (ll := [some (.ref 5), some (.int x1), some (.int 0), some (.int 0), some (.int r18)]) (st := []) (c1 := 0) (s1 := 0) (g := (ab_G mi16 ml17)) rfl ⟨trivial, trivial, trivial⟩ hc ?_
                      obtain ⟨mi27, ml28, hc, h⟩ := h
                      refine ab_wc 5 (c := 75) (as := [.ref 5, .int (x1 + 1)]) (pc := 177) (ll := [some (.ref 5), some (.int x1), some (.int 0), some (.int 0), some (.int r18)]) (st := []) (c1 := 0) (s1 := 0) (g := (ab_G mi25 ml26)) rfl ⟨trivial, trivial, trivial, trivial, trivial⟩ hc ?_
                      exact ab_wr 14 rfl ⟨trivial, trivial, trivial, trivial, trivial, trivial, trivial, trivial, trivial, trivial, trivial, trivial, trivial, trivial⟩ h
                  · have h := h.2 c
                    obtain ⟨mi29, ml30, hc, h⟩ := h
                    refine ab_wc 3 (c := 67) (as := [.ref 5, .int 5]) (pc := 133) (ll := [some (.ref 5), some (.int x1), some (.int 0), some (.int 0), some (.int r18)]) (st := []) (c1 := 0) (s1 := 0) (g := (ab_G mi16 ml17)) rfl ⟨trivial, trivial, trivial⟩ hc ?_
                    exact ab_wr 2 rfl ⟨trivial, trivial⟩ h
                · have h := h.2 c
                  obtain ⟨mi31, ml32, hc, h⟩ := h
                  refine ab_wc 3 (c := 67) (as := [.ref 5, .int 1]) (pc := 119) (ll := [some (.ref 5), some (.int x1), some (.int 0), some (.int 0), some (.int r18)]) (st := []) (c1 := 0) (s1 := 0) (g := (ab_G mi16 ml17)) rfl ⟨trivial, trivial, trivial⟩ hc ?_
                  exact ab_wr 2 rfl ⟨trivial, trivial⟩ h
              · have h := h.2 c
                refine ab_wk 3 (f' := (if x1 < 6 then 136 else 128, [some (.ref 5), some (.int x1), some (.int 0), some (.int 0), some (.int r18)], [], 0, 0, (ab_G mi16 ml17))) rfl ⟨trivial, trivial, trivial, trivial⟩ ?_
                refine ab_wi (fun c => ?_) (fun c => ?_)
                · have h := h.1 c
                  refine ab_wk 2 (f' := (if (0 : Int32) = 0 then 147 else 140, [some (.ref 5), some (.int x1), some (.int 0), some (.int 0), some (.int r18)], [], 0, 0, (ab_G mi16 ml17))) rfl ⟨trivial, trivial, trivial⟩ ?_
                  refine ab_wit (c := ((0 : Int32) = 0)) (by decide) ?_
                  refine ab_wk 2 (f' := (if (0 : Int32) = 0 then 158 else 151, [some (.ref 5), some (.int x1), some (.int 0), some (.int 0), some (.int r18)], [], 0, 0, (ab_G mi16 ml17))) rfl ⟨trivial, trivial, trivial⟩ ?_
                  refine ab_wit (c := ((0 : Int32) = 0)) (by decide) ?_
                  refine ab_wk 2 (f' := (if r18 = 0 then 204 else 163, [some (.ref 5), some (.int x1), some (.int 0), some (.int 0), some (.int r18)], [], 0, 0, (ab_G mi16 ml17))) rfl ⟨trivial, trivial, trivial⟩ ?_
                  refine ab_wi (fun c => ?_) (fun c => ?_)
                  · have h := h.1 c
                    obtain ⟨mi33, ml34, hc, h⟩ := h
                    refine ab_wc 3 (c := 85) (as := [.ref 2]) (pc := 211) (ll := [some (.ref 5), some (.int x1), some (.int 0), some (.int 0), some (.int r18)]) (st := []) (c1 := 0) (s1 := 0) (g := (ab_G mi16 ml17)) rfl ⟨trivial, trivial, trivial⟩ hc ?_
                    obtain ⟨mi35, ml36, hc, h⟩ := h
                    refine ab_wc 5 (c := 73) (as := [.ref 5, .int (x1 + 1)]) (pc := 218) (ll := [some (.ref 5), some (.int x1), some (.int 0), some (.int 0), some (.int r18)]) (st := []) (c1 := 0) (s1 := 0) (g := (ab_G mi33 ml34)) rfl ⟨trivial, trivial, trivial, trivial, trivial⟩ hc ?_
                    obtain ⟨mi37, ml38, hc, h⟩ := h
                    refine ab_wc 3 (c := 70) (as := [.ref 5, .int 5]) (pc := 223) (ll := [some (.ref 5), some (.int x1), some (.int 0), some (.int 0), some (.int r18)]) (st := []) (c1 := 0) (s1 := 0) (g := (ab_G mi35 ml36)) rfl ⟨trivial, trivial, trivial⟩ hc ?_
                    exact ab_wr 1 rfl trivial h
                  · have h := h.2 c
                    obtain ⟨mi39, ml40, hc, h⟩ := h
                    refine ab_wc 3 (c := 85) (as := [.ref 2]) (pc := 170) (ll := [some (.ref 5), some (.int x1), some (.int 0), some (.int 0), some (.int r18)]) (st := []) (c1 := 0) (s1 := 0) (g := (ab_G mi16 ml17)) rfl ⟨trivial, trivial, trivial⟩ hc ?_
                    obtain ⟨mi41, ml42, hc, h⟩ := h
                    refine ab_wc 5 (c := 75) (as := [.ref 5, .int (x1 + 1)]) (pc := 177) (ll := [some (.ref 5), some (.int x1), some (.int 0), some (.int 0), some (.int r18)]) (st := []) (c1 := 0) (s1 := 0) (g := (ab_G mi39 ml40)) rfl ⟨trivial, trivial, trivial, trivial, trivial⟩ hc ?_
                    exact ab_wr 14 rfl ⟨trivial, trivial, trivial, trivial, trivial, trivial, trivial, trivial, trivial, trivial, trivial, trivial, trivial, trivial⟩ h
                · have h := h.2 c
                  obtain ⟨mi43, ml44, hc, h⟩ := h
                  refine ab_wc 3 (c := 67) (as := [.ref 5, .int 5]) (pc := 133) (ll := [some (.ref 5), some (.int x1), some (.int 0), some (.int 0), some (.int r18)]) (st := []) (c1 := 0) (s1 := 0) (g := (ab_G mi16 ml17)) rfl ⟨trivial, trivial, trivial⟩ hc ?_
                  exact ab_wr 2 rfl ⟨trivial, trivial⟩ h
            · have h := h.2 c
              obtain ⟨r47, mi45, ml46, hc, h⟩ := h
              refine ab_wc 7 (c := 86) (as := [.ref 2, .ref 1000013]) (pc := 88) (ll := [some (.ref 5), some (.int x1), some (.int 0), some (.int 1), none]) (st := []) (c1 := 0) (s1 := 0) (g := (ab_G mi13 ml14)) rfl ⟨trivial, trivial, trivial, trivial, trivial, trivial, trivial⟩ hc ?_
              refine ab_wk 3 (f' := (if (0 : Int32) = 0 then 94 else 122, [some (.ref 5), some (.int x1), some (.int 0), some (.int 1), some (.int r47)], [], 0, 0, (ab_G mi45 ml46))) rfl ⟨trivial, trivial, trivial, trivial⟩ ?_
              refine ab_wit (c := ((0 : Int32) = 0)) (by decide) ?_
              refine ab_wk 2 (f' := (if (1 : Int32) = 0 then 98 else 122, [some (.ref 5), some (.int x1), some (.int 0), some (.int 1), some (.int r47)], [], 0, 0, (ab_G mi45 ml46))) rfl ⟨trivial, trivial, trivial⟩ ?_
              refine ab_wif (c := ((1 : Int32) = 0)) (by decide) ?_
              refine ab_wk 3 (f' := (if x1 < 6 then 136 else 128, [some (.ref 5), some (.int x1), some (.int 0), some (.int 1), some (.int r47)], [], 0, 0, (ab_G mi45 ml46))) rfl ⟨trivial, trivial, trivial, trivial⟩ ?_
              refine ab_wi (fun c => ?_) (fun c => ?_)
              · have h := h.1 c
                refine ab_wk 2 (f' := (if (0 : Int32) = 0 then 147 else 140, [some (.ref 5), some (.int x1), some (.int 0), some (.int 1), some (.int r47)], [], 0, 0, (ab_G mi45 ml46))) rfl ⟨trivial, trivial, trivial⟩ ?_
                refine ab_wit (c := ((0 : Int32) = 0)) (by decide) ?_
                refine ab_wk 2 (f' := (if (1 : Int32) = 0 then 158 else 151, [some (.ref 5), some (.int x1), some (.int 0), some (.int 1), some (.int r47)], [], 0, 0, (ab_G mi45 ml46))) rfl ⟨trivial, trivial, trivial⟩ ?_
                refine ab_wif (c := ((1 : Int32) = 0)) (by decide) ?_
                obtain ⟨mi48, ml49, hc, h⟩ := h
                refine ab_wc 2 (c := 77) (as := [.ref 5]) (pc := 155) (ll := [some (.ref 5), some (.int x1), some (.int 0), some (.int 1), some (.int r47)]) (st := []) (c1 := 0) (s1 := 0) (g := (ab_G mi45 ml46)) rfl ⟨trivial, trivial⟩ hc ?_
                exact ab_wr 2 rfl ⟨trivial, trivial⟩ h
              · have h := h.2 c
                obtain ⟨mi50, ml51, hc, h⟩ := h
                refine ab_wc 3 (c := 67) (as := [.ref 5, .int 5]) (pc := 133) (ll := [some (.ref 5), some (.int x1), some (.int 0), some (.int 1), some (.int r47)]) (st := []) (c1 := 0) (s1 := 0) (g := (ab_G mi45 ml46)) rfl ⟨trivial, trivial, trivial⟩ hc ?_
                exact ab_wr 2 rfl ⟨trivial, trivial⟩ h
          · have h := h.2 c
            obtain ⟨r54, mi52, ml53, hc, h⟩ := h
            refine ab_wc 7 (c := 86) (as := [.ref 2, .ref 1000013]) (pc := 88) (ll := [some (.ref 5), some (.int x1), some (.int 0), some (.int 1), none]) (st := []) (c1 := 0) (s1 := 0) (g := (ab_G mi10 ml11)) rfl ⟨trivial, trivial, trivial, trivial, trivial, trivial, trivial⟩ hc ?_
            refine ab_wk 3 (f' := (if (0 : Int32) = 0 then 94 else 122, [some (.ref 5), some (.int x1), some (.int 0), some (.int 1), some (.int r54)], [], 0, 0, (ab_G mi52 ml53))) rfl ⟨trivial, trivial, trivial, trivial⟩ ?_
            refine ab_wit (c := ((0 : Int32) = 0)) (by decide) ?_
            refine ab_wk 2 (f' := (if (1 : Int32) = 0 then 98 else 122, [some (.ref 5), some (.int x1), some (.int 0), some (.int 1), some (.int r54)], [], 0, 0, (ab_G mi52 ml53))) rfl ⟨trivial, trivial, trivial⟩ ?_
            refine ab_wif (c := ((1 : Int32) = 0)) (by decide) ?_
            refine ab_wk 3 (f' := (if x1 < 6 then 136 else 128, [some (.ref 5), some (.int x1), some (.int 0), some (.int 1), some (.int r54)], [], 0, 0, (ab_G mi52 ml53))) rfl ⟨trivial, trivial, trivial, trivial⟩ ?_
            refine ab_wi (fun c => ?_) (fun c => ?_)
            · have h := h.1 c
              refine ab_wk 2 (f' := (if (0 : Int32) = 0 then 147 else 140, [some (.ref 5), some (.int x1), some (.int 0), some (.int 1), some (.int r54)], [], 0, 0, (ab_G mi52 ml53))) rfl ⟨trivial, trivial, trivial⟩ ?_
              refine ab_wit (c := ((0 : Int32) = 0)) (by decide) ?_
              refine ab_wk 2 (f' := (if (1 : Int32) = 0 then 158 else 151, [some (.ref 5), some (.int x1), some (.int 0), some (.int 1), some (.int r54)], [], 0, 0, (ab_G mi52 ml53))) rfl ⟨trivial, trivial, trivial⟩ ?_
              refine ab_wif (c := ((1 : Int32) = 0)) (by decide) ?_
              obtain ⟨mi55, ml56, hc, h⟩ := h
              refine ab_wc 2 (c := 77) (as := [.ref 5]) (pc := 155) (ll := [some (.ref 5), some (.int x1), some (.int 0), some (.int 1), some (.int r54)]) (st := []) (c1 := 0) (s1 := 0) (g := (ab_G mi52 ml53)) rfl ⟨trivial, trivial⟩ hc ?_
              exact ab_wr 2 rfl ⟨trivial, trivial⟩ h
            · have h := h.2 c
              obtain ⟨mi57, ml58, hc, h⟩ := h
              refine ab_wc 3 (c := 67) (as := [.ref 5, .int 5]) (pc := 133) (ll := [some (.ref 5), some (.int x1), some (.int 0), some (.int 1), some (.int r54)]) (st := []) (c1 := 0) (s1 := 0) (g := (ab_G mi52 ml53)) rfl ⟨trivial, trivial, trivial⟩ hc ?_
              exact ab_wr 2 rfl ⟨trivial, trivial⟩ h
        · have h := h.2 c
          obtain ⟨r61, mi59, ml60, hc, h⟩ := h
          refine ab_wc 7 (c := 86) (as := [.ref 2, .ref 1000011]) (pc := 58) (ll := [some (.ref 5), some (.int x1), some (.int 1), none, none]) (st := []) (c1 := 0) (s1 := 0) (g := (ab_G mi7 ml8)) rfl ⟨trivial, trivial, trivial, trivial, trivial, trivial, trivial⟩ hc ?_
          refine ab_wk 1 (f' := (if r61 = 0 then 61 else 73, [some (.ref 5), some (.int x1), some (.int 1), none, none], [], 0, 0, (ab_G mi59 ml60))) rfl ⟨trivial, trivial⟩ ?_
          refine ab_wi (fun c => ?_) (fun c => ?_)
          · have h := h.1 c
            obtain ⟨r64, mi62, ml63, hc, h⟩ := h
            refine ab_wc 4 (c := 86) (as := [.ref 2, .ref 1000012]) (pc := 70) (ll := [some (.ref 5), some (.int x1), some (.int 1), none, none]) (st := []) (c1 := 0) (s1 := 0) (g := (ab_G mi59 ml60)) rfl ⟨trivial, trivial, trivial, trivial⟩ hc ?_
            refine ab_wk 1 (f' := (if r64 = 0 then 77 else 73, [some (.ref 5), some (.int x1), some (.int 1), none, none], [], 0, 0, (ab_G mi62 ml63))) rfl ⟨trivial, trivial⟩ ?_
            refine ab_wi (fun c => ?_) (fun c => ?_)
            · have h := h.1 c
              obtain ⟨r67, mi65, ml66, hc, h⟩ := h
              refine ab_wc 6 (c := 86) (as := [.ref 2, .ref 1000013]) (pc := 88) (ll := [some (.ref 5), some (.int x1), some (.int 1), some (.int 0), none]) (st := []) (c1 := 0) (s1 := 0) (g := (ab_G mi62 ml63)) rfl ⟨trivial, trivial, trivial, trivial, trivial, trivial⟩ hc ?_
              refine ab_wk 3 (f' := (if (1 : Int32) = 0 then 94 else 122, [some (.ref 5), some (.int x1), some (.int 1), some (.int 0), some (.int r67)], [], 0, 0, (ab_G mi65 ml66))) rfl ⟨trivial, trivial, trivial, trivial⟩ ?_
              refine ab_wif (c := ((1 : Int32) = 0)) (by decide) ?_
              refine ab_wk 3 (f' := (if x1 < 6 then 136 else 128, [some (.ref 5), some (.int x1), some (.int 1), some (.int 0), some (.int r67)], [], 0, 0, (ab_G mi65 ml66))) rfl ⟨trivial, trivial, trivial, trivial⟩ ?_
              refine ab_wi (fun c => ?_) (fun c => ?_)
              · have h := h.1 c
                refine ab_wk 2 (f' := (if (1 : Int32) = 0 then 147 else 140, [some (.ref 5), some (.int x1), some (.int 1), some (.int 0), some (.int r67)], [], 0, 0, (ab_G mi65 ml66))) rfl ⟨trivial, trivial, trivial⟩ ?_
                refine ab_wif (c := ((1 : Int32) = 0)) (by decide) ?_
                obtain ⟨mi68, ml69, hc, h⟩ := h
                refine ab_wc 2 (c := 76) (as := [.ref 5]) (pc := 144) (ll := [some (.ref 5), some (.int x1), some (.int 1), some (.int 0), some (.int r67)]) (st := []) (c1 := 0) (s1 := 0) (g := (ab_G mi65 ml66)) rfl ⟨trivial, trivial⟩ hc ?_
                exact ab_wr 2 rfl ⟨trivial, trivial⟩ h
              · have h := h.2 c
                obtain ⟨mi70, ml71, hc, h⟩ := h
                refine ab_wc 3 (c := 67) (as := [.ref 5, .int 5]) (pc := 133) (ll := [some (.ref 5), some (.int x1), some (.int 1), some (.int 0), some (.int r67)]) (st := []) (c1 := 0) (s1 := 0) (g := (ab_G mi65 ml66)) rfl ⟨trivial, trivial, trivial⟩ hc ?_
                exact ab_wr 2 rfl ⟨trivial, trivial⟩ h
            · have h := h.2 c
              obtain ⟨r74, mi72, ml73, hc, h⟩ := h
              refine ab_wc 7 (c := 86) (as := [.ref 2, .ref 1000013]) (pc := 88) (ll := [some (.ref 5), some (.int x1), some (.int 1), some (.int 1), none]) (st := []) (c1 := 0) (s1 := 0) (g := (ab_G mi62 ml63)) rfl ⟨trivial, trivial, trivial, trivial, trivial, trivial, trivial⟩ hc ?_
              refine ab_wk 3 (f' := (if (1 : Int32) = 0 then 94 else 122, [some (.ref 5), some (.int x1), some (.int 1), some (.int 1), some (.int r74)], [], 0, 0, (ab_G mi72 ml73))) rfl ⟨trivial, trivial, trivial, trivial⟩ ?_
              refine ab_wif (c := ((1 : Int32) = 0)) (by decide) ?_
              refine ab_wk 3 (f' := (if x1 < 6 then 136 else 128, [some (.ref 5), some (.int x1), some (.int 1), some (.int 1), some (.int r74)], [], 0, 0, (ab_G mi72 ml73))) rfl ⟨trivial, trivial, trivial, trivial⟩ ?_
              refine ab_wi (fun c => ?_) (fun c => ?_)
              · have h := h.1 c
                refine ab_wk 2 (f' := (if (1 : Int32) = 0 then 147 else 140, [some (.ref 5), some (.int x1), some (.int 1), some (.int 1), some (.int r74)], [], 0, 0, (ab_G mi72 ml73))) rfl ⟨trivial, trivial, trivial⟩ ?_
                refine ab_wif (c := ((1 : Int32) = 0)) (by decide) ?_
                obtain ⟨mi75, ml76, hc, h⟩ := h
                refine ab_wc 2 (c := 76) (as := [.ref 5]) (pc := 144) (ll := [some (.ref 5), some (.int x1), some (.int 1), some (.int 1), some (.int r74)]) (st := []) (c1 := 0) (s1 := 0) (g := (ab_G mi72 ml73)) rfl ⟨trivial, trivial⟩ hc ?_
                exact ab_wr 2 rfl ⟨trivial, trivial⟩ h
              · have h := h.2 c
                obtain ⟨mi77, ml78, hc, h⟩ := h
                refine ab_wc 3 (c := 67) (as := [.ref 5, .int 5]) (pc := 133) (ll := [some (.ref 5), some (.int x1), some (.int 1), some (.int 1), some (.int r74)]) (st := []) (c1 := 0) (s1 := 0) (g := (ab_G mi72 ml73)) rfl ⟨trivial, trivial, trivial⟩ hc ?_
                exact ab_wr 2 rfl ⟨trivial, trivial⟩ h
          · have h := h.2 c
            obtain ⟨r81, mi79, ml80, hc, h⟩ := h
            refine ab_wc 7 (c := 86) (as := [.ref 2, .ref 1000013]) (pc := 88) (ll := [some (.ref 5), some (.int x1), some (.int 1), some (.int 1), none]) (st := []) (c1 := 0) (s1 := 0) (g := (ab_G mi59 ml60)) rfl ⟨trivial, trivial, trivial, trivial, trivial, trivial, trivial⟩ hc ?_
            refine ab_wk 3 (f' := (if (1 : Int32) = 0 then 94 else 122, [some (.ref 5), some (.int x1), some (.int 1), some (.int 1), some (.int r81)], [], 0, 0, (ab_G mi79 ml80))) rfl ⟨trivial, trivial, trivial, trivial⟩ ?_
            refine ab_wif (c := ((1 : Int32) = 0)) (by decide) ?_
            refine ab_wk 3 (f' := (if x1 < 6 then 136 else 128, [some (.ref 5), some (.int x1), some (.int 1), some (.int 1), some (.int r81)], [], 0, 0, (ab_G mi79 ml80))) rfl ⟨trivial, trivial, trivial, trivial⟩ ?_
            refine ab_wi (fun c => ?_) (fun c => ?_)
            · have h := h.1 c
              refine ab_wk 2 (f' := (if (1 : Int32) = 0 then 147 else 140, [some (.ref 5), some (.int x1), some (.int 1), some (.int 1), some (.int r81)], [], 0, 0, (ab_G mi79 ml80))) rfl ⟨trivial, trivial, trivial⟩ ?_
              refine ab_wif (c := ((1 : Int32) = 0)) (by decide) ?_
              obtain ⟨mi82, ml83, hc, h⟩ := h
              refine ab_wc 2 (c := 76) (as := [.ref 5]) (pc := 144) (ll := [some (.ref 5), some (.int x1), some (.int 1), some (.int 1), some (.int r81)]) (st := []) (c1 := 0) (s1 := 0) (g := (ab_G mi79 ml80)) rfl ⟨trivial, trivial⟩ hc ?_
              exact ab_wr 2 rfl ⟨trivial, trivial⟩ h
            · have h := h.2 c
              obtain ⟨mi84, ml85, hc, h⟩ := h
              refine ab_wc 3 (c := 67) (as := [.ref 5, .int 5]) (pc := 133) (ll := [some (.ref 5), some (.int x1), some (.int 1), some (.int 1), some (.int r81)]) (st := []) (c1 := 0) (s1 := 0) (g := (ab_G mi79 ml80)) rfl ⟨trivial, trivial, trivial⟩ hc ?_
              exact ab_wr 2 rfl ⟨trivial, trivial⟩ h
      · have h := h.2 c
        obtain ⟨r88, mi86, ml87, hc, h⟩ := h
        refine ab_wc 7 (c := 86) (as := [.ref 2, .ref 1000011]) (pc := 58) (ll := [some (.ref 5), some (.int x1), some (.int 1), none, none]) (st := []) (c1 := 0) (s1 := 0) (g := (ab_G mi4 ml5)) rfl ⟨trivial, trivial, trivial, trivial, trivial, trivial, trivial⟩ hc ?_
        refine ab_wk 1 (f' := (if r88 = 0 then 61 else 73, [some (.ref 5), some (.int x1), some (.int 1), none, none], [], 0, 0, (ab_G mi86 ml87))) rfl ⟨trivial, trivial⟩ ?_
        refine ab_wi (fun c => ?_) (fun c => ?_)
        · have h := h.1 c
          obtain ⟨r91, mi89, ml90, hc, h⟩ := h
          refine ab_wc 4 (c := 86) (as := [.ref 2, .ref 1000012]) (pc := 70) (ll := [some (.ref 5), some (.int x1), some (.int 1), none, none]) (st := []) (c1 := 0) (s1 := 0) (g := (ab_G mi86 ml87)) rfl ⟨trivial, trivial, trivial, trivial⟩ hc ?_
          refine ab_wk 1 (f' := (if r91 = 0 then 77 else 73, [some (.ref 5), some (.int x1), some (.int 1), none, none], [], 0, 0, (ab_G mi89 ml90))) rfl ⟨trivial, trivial⟩ ?_
          refine ab_wi (fun c => ?_) (fun c => ?_)
          · have h := h.1 c
            obtain ⟨r94, mi92, ml93, hc, h⟩ := h
            refine ab_wc 6 (c := 86) (as := [.ref 2, .ref 1000013]) (pc := 88) (ll := [some (.ref 5), some (.int x1), some (.int 1), some (.int 0), none]) (st := []) (c1 := 0) (s1 := 0) (g := (ab_G mi89 ml90)) rfl ⟨trivial, trivial, trivial, trivial, trivial, trivial⟩ hc ?_
            refine ab_wk 3 (f' := (if (1 : Int32) = 0 then 94 else 122, [some (.ref 5), some (.int x1), some (.int 1), some (.int 0), some (.int r94)], [], 0, 0, (ab_G mi92 ml93))) rfl ⟨trivial, trivial, trivial, trivial⟩ ?_
            refine ab_wif (c := ((1 : Int32) = 0)) (by decide) ?_
            refine ab_wk 3 (f' := (if x1 < 6 then 136 else 128, [some (.ref 5), some (.int x1), some (.int 1), some (.int 0), some (.int r94)], [], 0, 0, (ab_G mi92 ml93))) rfl ⟨trivial, trivial, trivial, trivial⟩ ?_
            refine ab_wi (fun c => ?_) (fun c => ?_)
            · have h := h.1 c
              refine ab_wk 2 (f' := (if (1 : Int32) = 0 then 147 else 140, [some (.ref 5), some (.int x1), some (.int 1), some (.int 0), some (.int r94)], [], 0, 0, (ab_G mi92 ml93))) rfl ⟨trivial, trivial, trivial⟩ ?_
              refine ab_wif (c := ((1 : Int32) = 0)) (by decide) ?_
              obtain ⟨mi95, ml96, hc, h⟩ := h
              refine ab_wc 2 (c := 76) (as := [.ref 5]) (pc := 144) (ll := [some (.ref 5), some (.int x1), some (.int 1), some (.int 0), some (.int r94)]) (st := []) (c1 := 0) (s1 := 0) (g := (ab_G mi92 ml93)) rfl ⟨trivial, trivial⟩ hc ?_
              exact ab_wr 2 rfl ⟨trivial, trivial⟩ h
            · have h := h.2 c
              obtain ⟨mi97, ml98, hc, h⟩ := h
              refine ab_wc 3 (c := 67) (as := [.ref 5, .int 5]) (pc := 133) (ll := [some (.ref 5), some (.int x1), some (.int 1), some (.int 0), some (.int r94)]) (st := []) (c1 := 0) (s1 := 0) (g := (ab_G mi92 ml93)) rfl ⟨trivial, trivial, trivial⟩ hc ?_
              exact ab_wr 2 rfl ⟨trivial, trivial⟩ h
          · have h := h.2 c
            obtain ⟨r101, mi99, ml100, hc, h⟩ := h
            refine ab_wc 7 (c := 86) (as := [.ref 2, .ref 1000013]) (pc := 88) (ll := [some (.ref 5), some (.int x1), some (.int 1), some (.int 1), none]) (st := []) (c1 := 0) (s1 := 0) (g := (ab_G mi89 ml90)) rfl ⟨trivial, trivial, trivial, trivial, trivial, trivial, trivial⟩ hc ?_
            refine ab_wk 3 (f' := (if (1 : Int32) = 0 then 94 else 122, [some (.ref 5), some (.int x1), some (.int 1), some (.int 1), some (.int r101)], [], 0, 0, (ab_G mi99 ml100))) rfl ⟨trivial, trivial, trivial, trivial⟩ ?_
            refine ab_wif (c := ((1 : Int32) = 0)) (by decide) ?_
            refine ab_wk 3 (f' := (if x1 < 6 then 136 else 128, [some (.ref 5), some (.int x1), some (.int 1), some (.int 1), some (.int r101)], [], 0, 0, (ab_G mi99 ml100))) rfl ⟨trivial, trivial, trivial, trivial⟩ ?_
            refine ab_wi (fun c => ?_) (fun c => ?_)
            · have h := h.1 c
              refine ab_wk 2 (f' := (if (1 : Int32) = 0 then 147 else 140, [some (.ref 5), some (.int x1), some (.int 1), some (.int 1), some (.int r101)], [], 0, 0, (ab_G mi99 ml100))) rfl ⟨trivial, trivial, trivial⟩ ?_
              refine ab_wif (c := ((1 : Int32) = 0)) (by decide) ?_
              obtain ⟨mi102, ml103, hc, h⟩ := h
              refine ab_wc 2 (c := 76) (as := [.ref 5]) (pc := 144) (ll := [some (.ref 5), some (.int x1), some (.int 1), some (.int 1), some (.int r101)]) (st := []) (c1 := 0) (s1 := 0) (g := (ab_G mi99 ml100)) rfl ⟨trivial, trivial⟩ hc ?_
              exact ab_wr 2 rfl ⟨trivial, trivial⟩ h
            · have h := h.2 c
              obtain ⟨mi104, ml105, hc, h⟩ := h
              refine ab_wc 3 (c := 67) (as := [.ref 5, .int 5]) (pc := 133) (ll := [some (.ref 5), some (.int x1), some (.int 1), some (.int 1), some (.int r101)]) (st := []) (c1 := 0) (s1 := 0) (g := (ab_G mi99 ml100)) rfl ⟨trivial, trivial, trivial⟩ hc ?_
              exact ab_wr 2 rfl ⟨trivial, trivial⟩ h
        · have h := h.2 c
          obtain ⟨r108, mi106, ml107, hc, h⟩ := h
          refine ab_wc 7 (c := 86) (as := [.ref 2, .ref 1000013]) (pc := 88) (ll := [some (.ref 5), some (.int x1), some (.int 1), some (.int 1), none]) (st := []) (c1 := 0) (s1 := 0) (g := (ab_G mi86 ml87)) rfl ⟨trivial, trivial, trivial, trivial, trivial, trivial, trivial⟩ hc ?_
          refine ab_wk 3 (f' := (if (1 : Int32) = 0 then 94 else 122, [some (.ref 5), some (.int x1), some (.int 1), some (.int 1), some (.int r108)], [], 0, 0, (ab_G mi106 ml107))) rfl ⟨trivial, trivial, trivial, trivial⟩ ?_
          refine ab_wif (c := ((1 : Int32) = 0)) (by decide) ?_
          refine ab_wk 3 (f' := (if x1 < 6 then 136 else 128, [some (.ref 5), some (.int x1), some (.int 1), some (.int 1), some (.int r108)], [], 0, 0, (ab_G mi106 ml107))) rfl ⟨trivial, trivial, trivial, trivial⟩ ?_
          refine ab_wi (fun c => ?_) (fun c => ?_)
          · have h := h.1 c
            refine ab_wk 2 (f' := (if (1 : Int32) = 0 then 147 else 140, [some (.ref 5), some (.int x1), some (.int 1), some (.int 1), some (.int r108)], [], 0, 0, (ab_G mi106 ml107))) rfl ⟨trivial, trivial, trivial⟩ ?_
            refine ab_wif (c := ((1 : Int32) = 0)) (by decide) ?_
            obtain ⟨mi109, ml110, hc, h⟩ := h
            refine ab_wc 2 (c := 76) (as := [.ref 5]) (pc := 144) (ll := [some (.ref 5), some (.int x1), some (.int 1), some (.int 1), some (.int r108)]) (st := []) (c1 := 0) (s1 := 0) (g := (ab_G mi106 ml107)) rfl ⟨trivial, trivial⟩ hc ?_
            exact ab_wr 2 rfl ⟨trivial, trivial⟩ h
          · have h := h.2 c
            obtain ⟨mi111, ml112, hc, h⟩ := h
            refine ab_wc 3 (c := 67) (as := [.ref 5, .int 5]) (pc := 133) (ll := [some (.ref 5), some (.int x1), some (.int 1), some (.int 1), some (.int r108)]) (st := []) (c1 := 0) (s1 := 0) (g := (ab_G mi106 ml107)) rfl ⟨trivial, trivial, trivial⟩ hc ?_
            exact ab_wr 2 rfl ⟨trivial, trivial⟩ h
    · have h := h.2 c
      obtain ⟨r115, mi113, ml114, hc, h⟩ := h
      refine ab_wc 7 (c := 86) (as := [.ref 2, .ref 1000011]) (pc := 58) (ll := [some (.ref 5), some (.int x1), some (.int 1), none, none]) (st := []) (c1 := 0) (s1 := 0) (g := (ab_G mi1 ml2)) rfl ⟨trivial, trivial, trivial, trivial, trivial, trivial, trivial⟩ hc ?_
      refine ab_wk 1 (f' := (if r115 = 0 then 61 else 73, [some (.ref 5), some (.int x1), some (.int 1), none, none], [], 0, 0, (ab_G mi113 ml114))) rfl ⟨trivial, trivial⟩ ?_
      refine ab_wi (fun c => ?_) (fun c => ?_)
      · have h := h.1 c
        obtain ⟨r118, mi116, ml117, hc, h⟩ := h
        refine ab_wc 4 (c := 86) (as := [.ref 2, .ref 1000012]) (pc := 70) (ll := [some (.ref 5), some (.int x1), some (.int 1), none, none]) (st := []) (c1 := 0) (s1 := 0) (g := (ab_G mi113 ml114)) rfl ⟨trivial, trivial, trivial, trivial⟩ hc ?_
        refine ab_wk 1 (f' := (if r118 = 0 then 77 else 73, [some (.ref 5), some (.int x1), some (.int 1), none, none], [], 0, 0, (ab_G mi116 ml117))) rfl ⟨trivial, trivial⟩ ?_
        refine ab_wi (fun c => ?_) (fun c => ?_)
        · have h := h.1 c
          obtain ⟨r121, mi119, ml120, hc, h⟩ := h
          refine ab_wc 6 (c := 86) (as := [.ref 2, .ref 1000013]) (pc := 88) (ll := [some (.ref 5), some (.int x1), some (.int 1), some (.int 0), none]) (st := []) (c1 := 0) (s1 := 0) (g := (ab_G mi116 ml117)) rfl ⟨trivial, trivial, trivial, trivial, trivial, trivial⟩ hc ?_
          refine ab_wk 3 (f' := (if (1 : Int32) = 0 then 94 else 122, [some (.ref 5), some (.int x1), some (.int 1), some (.int 0), some (.int r121)], [], 0, 0, (ab_G mi119 ml120))) rfl ⟨trivial, trivial, trivial, trivial⟩ ?_
          refine ab_wif (c := ((1 : Int32) = 0)) (by decide) ?_
          refine ab_wk 3 (f' := (if x1 < 6 then 136 else 128, [some (.ref 5), some (.int x1), some (.int 1), some (.int 0), some (.int r121)], [], 0, 0, (ab_G mi119 ml120))) rfl ⟨trivial, trivial, trivial, trivial⟩ ?_
          refine ab_wi (fun c => ?_) (fun c => ?_)
          · have h := h.1 c
            refine ab_wk 2 (f' := (if (1 : Int32) = 0 then 147 else 140, [some (.ref 5), some (.int x1), some (.int 1), some (.int 0), some (.int r121)], [], 0, 0, (ab_G mi119 ml120))) rfl ⟨trivial, trivial, trivial⟩ ?_
            refine ab_wif (c := ((1 : Int32) = 0)) (by decide) ?_
            obtain ⟨mi122, ml123, hc, h⟩ := h
            refine ab_wc 2 (c := 76) (as := [.ref 5]) (pc := 144) (ll := [some (.ref 5), some (.int x1), some (.int 1), some (.int 0), some (.int r121)]) (st := []) (c1 := 0) (s1 := 0) (g := (ab_G mi119 ml120)) rfl ⟨trivial, trivial⟩ hc ?_
            exact ab_wr 2 rfl ⟨trivial, trivial⟩ h
          · have h := h.2 c
            obtain ⟨mi124, ml125, hc, h⟩ := h
            refine ab_wc 3 (c := 67) (as := [.ref 5, .int 5]) (pc := 133) (ll := [some (.ref 5), some (.int x1), some (.int 1), some (.int 0), some (.int r121)]) (st := []) (c1 := 0) (s1 := 0) (g := (ab_G mi119 ml120)) rfl ⟨trivial, trivial, trivial⟩ hc ?_
            exact ab_wr 2 rfl ⟨trivial, trivial⟩ h
        · have h := h.2 c
          obtain ⟨r128, mi126, ml127, hc, h⟩ := h
          refine ab_wc 7 (c := 86) (as := [.ref 2, .ref 1000013]) (pc := 88) (ll := [some (.ref 5), some (.int x1), some (.int 1), some (.int 1), none]) (st := []) (c1 := 0) (s1 := 0) (g := (ab_G mi116 ml117)) rfl ⟨trivial, trivial, trivial, trivial, trivial, trivial, trivial⟩ hc ?_
          refine ab_wk 3 (f' := (if (1 : Int32) = 0 then 94 else 122, [some (.ref 5), some (.int x1), some (.int 1), some (.int 1), some (.int r128)], [], 0, 0, (ab_G mi126 ml127))) rfl ⟨trivial, trivial, trivial, trivial⟩ ?_
          refine ab_wif (c := ((1 : Int32) = 0)) (by decide) ?_
          refine ab_wk 3 (f' := (if x1 < 6 then 136 else 128, [some (.ref 5), some (.int x1), some (.int 1), some (.int 1), some (.int r128)], [], 0, 0, (ab_G mi126 ml127))) rfl ⟨trivial, trivial, trivial, trivial⟩ ?_
          refine ab_wi (fun c => ?_) (fun c => ?_)
          · have h := h.1 c
            refine ab_wk 2 (f' := (if (1 : Int32) = 0 then 147 else 140, [some (.ref 5), some (.int x1), some (.int 1), some (.int 1), some (.int r128)], [], 0, 0, (ab_G mi126 ml127))) rfl ⟨trivial, trivial, trivial⟩ ?_
            refine ab_wif (c := ((1 : Int32) = 0)) (by decide) ?_
            obtain ⟨mi129, ml130, hc, h⟩ := h
            refine ab_wc 2 (c := 76) (as := [.ref 5]) (pc := 144) (ll := [some (.ref 5), some (.int x1), some (.int 1), some (.int 1), some (.int r128)]) (st := []) (c1 := 0) (s1 := 0) (g := (ab_G mi126 ml127)) rfl ⟨trivial, trivial⟩ hc ?_
            exact ab_wr 2 rfl ⟨trivial, trivial⟩ h
          · have h := h.2 c
            obtain ⟨mi131, ml132, hc, h⟩ := h
            refine ab_wc 3 (c := 67) (as := [.ref 5, .int 5]) (pc := 133) (ll := [some (.ref 5), some (.int x1), some (.int 1), some (.int 1), some (.int r128)]) (st := []) (c1 := 0) (s1 := 0) (g := (ab_G mi126 ml127)) rfl ⟨trivial, trivial, trivial⟩ hc ?_
            exact ab_wr 2 rfl ⟨trivial, trivial⟩ h
      · have h := h.2 c
        obtain ⟨r135, mi133, ml134, hc, h⟩ := h
        refine ab_wc 7 (c := 86) (as := [.ref 2, .ref 1000013]) (pc := 88) (ll := [some (.ref 5), some (.int x1), some (.int 1), some (.int 1), none]) (st := []) (c1 := 0) (s1 := 0) (g := (ab_G mi113 ml114)) rfl ⟨trivial, trivial, trivial, trivial, trivial, trivial, trivial⟩ hc ?_
        refine ab_wk 3 (f' := (if (1 : Int32) = 0 then 94 else 122, [some (.ref 5), some (.int x1), some (.int 1), some (.int 1), some (.int r135)], [], 0, 0, (ab_G mi133 ml134))) rfl ⟨trivial, trivial, trivial, trivial⟩ ?_
        refine ab_wif (c := ((1 : Int32) = 0)) (by decide) ?_
        refine ab_wk 3 (f' := (if x1 < 6 then 136 else 128, [some (.ref 5), some (.int x1), some (.int 1), some (.int 1), some (.int r135)], [], 0, 0, (ab_G mi133 ml134))) rfl ⟨trivial, trivial, trivial, trivial⟩ ?_
        refine ab_wi (fun c => ?_) (fun c => ?_)
        · have h := h.1 c
          refine ab_wk 2 (f' := (if (1 : Int32) = 0 then 147 else 140, [some (.ref 5), some (.int x1), some (.int 1), some (.int 1), some (.int r135)], [], 0, 0, (ab_G mi133 ml134))) rfl ⟨trivial, trivial, trivial⟩ ?_
          refine ab_wif (c := ((1 : Int32) = 0)) (by decide) ?_
          obtain ⟨mi136, ml137, hc, h⟩ := h
          refine ab_wc 2 (c := 76) (as := [.ref 5]) (pc := 144) (ll := [some (.ref 5), some (.int x1), some (.int 1), some (.int 1), some (.int r135)]) (st := []) (c1 := 0) (s1 := 0) (g := (ab_G mi133 ml134)) rfl ⟨trivial, trivial⟩ hc ?_
          exact ab_wr 2 rfl ⟨trivial, trivial⟩ h
        · have h := h.2 c
          obtain ⟨mi138, ml139, hc, h⟩ := h
          refine ab_wc 3 (c := 67) (as := [.ref 5, .int 5]) (pc := 133) (ll := [some (.ref 5), some (.int x1), some (.int 1), some (.int 1), some (.int r135)]) (st := []) (c1 := 0) (s1 := 0) (g := (ab_G mi133 ml134)) rfl ⟨trivial, trivial, trivial⟩ hc ?_
          exact ab_wr 2 rfl ⟨trivial, trivial⟩ h
  · have h := h.2 c
    exact ab_wr 1 rfl trivial h
theorem vc_X7_simplePart_0 {call : Nat → List Value → ab_S → Option Value → ab_S → Prop} {L : Nat} {xs : Nat → Int32} {Q : Option Value → ab_S → Prop}  (mi : Nat → Nat → Int32) (ml : Nat → Nat → Int64)
    (h : ∃ (r3 : Int32) (mi1 : Nat → Nat → Int32) (ml2 : Nat → Nat → Int64), call 87 [.ref 2] (ab_G mi ml) (some (.int r3)) (ab_G mi1 ml2) ∧ (((r3 < 0) → (∃ (r6 : Int32) (mi4 : Nat → Nat → Int32) (ml5 : Nat → Nat → Int64), call 86 [.ref 2, .ref 1000009] (ab_G mi1 ml2) (some (.int r6)) (ab_G mi4 ml5) ∧ (((r6 = 0) → (∃ (mi7 : Nat → Nat → Int32) (ml8 : Nat → Nat → Int64), call 85 [.ref 2] (ab_G mi4 (ab_ul (ab_ul ml5 5 2 0) 5 3 0)) none (ab_G mi7 ml8) ∧ (Q none (ab_G mi7 ml8)))) ∧ (¬ (r6 = 0) → (∃ (mi9 : Nat → Nat → Int32) (ml10 : Nat → Nat → Int64), call 85 [.ref 2] (ab_G mi4 (ab_ul (ab_ul ml5 5 2 (-1)) 5 3 (-1))) none (ab_G mi9 ml10) ∧ (Q none (ab_G mi9 ml10))))))) ∧ (¬ (r3 < 0) → (((r3 < 7) → (vp_in r3 7 ∧ (vp_in r3 7 ∧ (∃ (mi11 : Nat → Nat → Int32) (ml12 : Nat → Nat → Int64), call 85 [.ref 2] (ab_G mi1 (ab_ul (ab_ul ml2 5 2 (ab_alo (r3).toNatClampNeg)) 5 3 (ab_ahi (r3).toNatClampNeg))) none (ab_G mi11 ml12) ∧ (Q none (ab_G mi11 ml12)))))) ∧ (¬ (r3 < 7) → (∃ (r15 : Int32) (mi13 : Nat → Nat → Int32) (ml14 : Nat → Nat → Int64), call 86 [.ref 2, .ref 1000009] (ab_G mi1 ml2) (some (.int r15)) (ab_G mi13 ml14) ∧ (((r15 = 0) → (∃ (mi16 : Nat → Nat → Int32) (ml17 : Nat → Nat → Int64), call 85 [.ref 2] (ab_G mi13 (ab_ul (ab_ul ml14 5 2 0) 5 3 0)) none (ab_G mi16 ml17) ∧ (Q none (ab_G mi16 ml17)))) ∧ (¬ (r15 = 0) → (∃ (mi18 : Nat → Nat → Int32) (ml19 : Nat → Nat → Int64), call 85 [.ref 2] (ab_G mi13 (ab_ul (ab_ul ml14 5 2 (-1)) 5 3 (-1))) none (ab_G mi18 ml19) ∧ (Q none (ab_G mi18 ml19))))))))))) :
    ab_W call (ab_ro L xs) 0 0 (ab_lk2 pl_X7_simplePart) Q (0, [some (.ref 5), none], [], 0, 0, ab_G mi ml) := by
  obtain ⟨r3, mi1, ml2, hc, h⟩ := h
  refine ab_wc 3 (c := 87) (as := [.ref 2]) (pc := 7) (ll := [some (.ref 5), none]) (st := []) (c1 := 0) (s1 := 0) (g := (ab_G mi ml)) rfl ⟨trivial, trivial, trivial⟩ hc ?_
  refine ab_wk 3 (f' := (if r3 < 0 then 39 else 12, [some (.ref 5), some (.int r3)], [], 0, 0, (ab_G mi1 ml2))) rfl ⟨trivial, trivial, trivial, trivial⟩ ?_
  refine ab_wi (fun c => ?_) (fun c => ?_)
  · have h := h.1 c
    obtain ⟨r6, mi4, ml5, hc, h⟩ := h
    refine ab_wc 5 (c := 86) (as := [.ref 2, .ref 1000009]) (pc := 49) (ll := [some (.ref 5), some (.int r3)]) (st := [.ref 5]) (c1 := 0) (s1 := 0) (g := (ab_G mi1 ml2)) rfl ⟨trivial, trivial, trivial, trivial, trivial⟩ hc ?_
    refine ab_wk 1 (f' := (if r6 = 0 then 58 else 52, [some (.ref 5), some (.int r3)], [.ref 5], 0, 0, (ab_G mi4 ml5))) rfl ⟨trivial, trivial⟩ ?_
    refine ab_wi (fun c => ?_) (fun c => ?_)
    · have h := h.1 c
      obtain ⟨mi7, ml8, hc, h⟩ := h
      refine ab_wc 9 (c := 85) (as := [.ref 2]) (pc := 77) (ll := [some (.ref 5), some (.int r3)]) (st := []) (c1 := 0) (s1 := 0) (g := (ab_G mi4 (ab_ul (ab_ul ml5 5 2 0) 5 3 0))) rfl ⟨trivial, trivial, trivial, trivial, trivial, trivial, trivial, trivial, trivial⟩ hc ?_
      exact ab_wr 1 rfl trivial h
    · have h := h.2 c
      obtain ⟨mi9, ml10, hc, h⟩ := h
      refine ab_wc 10 (c := 85) (as := [.ref 2]) (pc := 77) (ll := [some (.ref 5), some (.int r3)]) (st := []) (c1 := 0) (s1 := 0) (g := (ab_G mi4 (ab_ul (ab_ul ml5 5 2 (-1)) 5 3 (-1)))) rfl ⟨trivial, trivial, trivial, trivial, trivial, trivial, trivial, trivial, trivial, trivial⟩ hc ?_
      exact ab_wr 1 rfl trivial h
  · have h := h.2 c
    refine ab_wk 3 (f' := (if r3 < 7 then 18 else 39, [some (.ref 5), some (.int r3)], [], 0, 0, (ab_G mi1 ml2))) rfl ⟨trivial, trivial, trivial, trivial⟩ ?_
    refine ab_wi (fun c => ?_) (fun c => ?_)
    · have h := h.1 c
      obtain ⟨p0, p1, h⟩ := h
      obtain ⟨mi11, ml12, hc, h⟩ := h
      refine ab_wc 14 (c := 85) (as := [.ref 2]) (pc := 77) (ll := [some (.ref 5), some (.int r3)]) (st := []) (c1 := 0) (s1 := 0) (g := (ab_G mi1 (ab_ul (ab_ul ml2 5 2 (ab_alo (r3).toNatClampNeg)) 5 3 (ab_ahi (r3).toNatClampNeg)))) rfl ⟨trivial, trivial, trivial, p0, trivial, trivial, trivial, trivial, p1, trivial, trivial, trivial, trivial, trivial⟩ hc ?_
      exact ab_wr 1 rfl trivial h
    · have h := h.2 c
      obtain ⟨r15, mi13, ml14, hc, h⟩ := h
      refine ab_wc 5 (c := 86) (as := [.ref 2, .ref 1000009]) (pc := 49) (ll := [some (.ref 5), some (.int r3)]) (st := [.ref 5]) (c1 := 0) (s1 := 0) (g := (ab_G mi1 ml2)) rfl ⟨trivial, trivial, trivial, trivial, trivial⟩ hc ?_
      refine ab_wk 1 (f' := (if r15 = 0 then 58 else 52, [some (.ref 5), some (.int r3)], [.ref 5], 0, 0, (ab_G mi13 ml14))) rfl ⟨trivial, trivial⟩ ?_
      refine ab_wi (fun c => ?_) (fun c => ?_)
      · have h := h.1 c
        obtain ⟨mi16, ml17, hc, h⟩ := h
        refine ab_wc 9 (c := 85) (as := [.ref 2]) (pc := 77) (ll := [some (.ref 5), some (.int r3)]) (st := []) (c1 := 0) (s1 := 0) (g := (ab_G mi13 (ab_ul (ab_ul ml14 5 2 0) 5 3 0))) rfl ⟨trivial, trivial, trivial, trivial, trivial, trivial, trivial, trivial, trivial⟩ hc ?_
        exact ab_wr 1 rfl trivial h
      · have h := h.2 c
        obtain ⟨mi18, ml19, hc, h⟩ := h
        refine ab_wc 10 (c := 85) (as := [.ref 2]) (pc := 77) (ll := [some (.ref 5), some (.int r3)]) (st := []) (c1 := 0) (s1 := 0) (g := (ab_G mi13 (ab_ul (ab_ul ml14 5 2 (-1)) 5 3 (-1)))) rfl ⟨trivial, trivial, trivial, trivial, trivial, trivial, trivial, trivial, trivial, trivial⟩ hc ?_
        exact ab_wr 1 rfl trivial h
theorem vc_X7_countedPart_0 {call : Nat → List Value → ab_S → Option Value → ab_S → Prop} {ro : ab_E} {Q : Option Value → ab_S → Prop}  (mi : Nat → Nat → Int32) (ml : Nat → Nat → Int64)
    (h : ∃ (r3 : Int32) (mi1 : Nat → Nat → Int32) (ml2 : Nat → Nat → Int64), call 86 [.ref 2, .ref 1000011] (ab_G mi ml) (some (.int r3)) (ab_G mi1 ml2) ∧ (∃ (mi4 : Nat → Nat → Int32) (ml5 : Nat → Nat → Int64), call 85 [.ref 2] (ab_G mi1 ml2) none (ab_G mi4 ml5) ∧ (∃ (r8 : Int32) (mi6 : Nat → Nat → Int32) (ml7 : Nat → Nat → Int64), call 71 [.ref 5, .int 8] (ab_G mi4 ml5) (some (.int r8)) (ab_G mi6 ml7) ∧ (∃ (mi9 : Nat → Nat → Int32) (ml10 : Nat → Nat → Int64), call 69 [.ref 5, .ref 1000014] (ab_G mi6 ml7) none (ab_G mi9 ml10) ∧ (∃ (mi11 : Nat → Nat → Int32) (ml12 : Nat → Nat → Int64), call 70 [.ref 5, .int 4] (ab_G mi9 ml10) none (ab_G mi11 ml12) ∧ (∃ (r15 : Int32) (mi13 : Nat → Nat → Int32) (ml14 : Nat → Nat → Int64), call 78 [.ref 5, .int 0] (ab_G mi11 ml12) (some (.int r15)) (ab_G mi13 ml14) ∧ (ab_W call ro 0 0 (ab_lk2 pl_X7_countedPart) Q (44, [some (.ref 5), some (.int r3), some (.int r8), some (.int r15), some (.int 0)], [], 0, 0, (ab_G mi13 ml14))))))))) :
    ab_W call ro 0 0 (ab_lk2 pl_X7_countedPart) Q (0, [some (.ref 5), none, none, none, none], [], 0, 0, ab_G mi ml) := by
  obtain ⟨r3, mi1, ml2, hc, h⟩ := h
  refine ab_wc 4 (c := 86) (as := [.ref 2, .ref 1000011]) (pc := 9) (ll := [some (.ref 5), none, none, none, none]) (st := []) (c1 := 0) (s1 := 0) (g := (ab_G mi ml)) rfl ⟨trivial, trivial, trivial, trivial⟩ hc ?_
  obtain ⟨mi4, ml5, hc, h⟩ := h
  refine ab_wc 4 (c := 85) (as := [.ref 2]) (pc := 17) (ll := [some (.ref 5), some (.int r3), none, none, none]) (st := []) (c1 := 0) (s1 := 0) (g := (ab_G mi1 ml2)) rfl ⟨trivial, trivial, trivial, trivial⟩ hc ?_
  obtain ⟨r8, mi6, ml7, hc, h⟩ := h
  refine ab_wc 3 (c := 71) (as := [.ref 5, .int 8]) (pc := 23) (ll := [some (.ref 5), some (.int r3), none, none, none]) (st := []) (c1 := 0) (s1 := 0) (g := (ab_G mi4 ml5)) rfl ⟨trivial, trivial, trivial⟩ hc ?_
  obtain ⟨mi9, ml10, hc, h⟩ := h
  refine ab_wc 4 (c := 69) (as := [.ref 5, .ref 1000014]) (pc := 30) (ll := [some (.ref 5), some (.int r3), some (.int r8), none, none]) (st := []) (c1 := 0) (s1 := 0) (g := (ab_G mi6 ml7)) rfl ⟨trivial, trivial, trivial, trivial⟩ hc ?_
  obtain ⟨mi11, ml12, hc, h⟩ := h
  refine ab_wc 3 (c := 70) (as := [.ref 5, .int 4]) (pc := 35) (ll := [some (.ref 5), some (.int r3), some (.int r8), none, none]) (st := []) (c1 := 0) (s1 := 0) (g := (ab_G mi9 ml10)) rfl ⟨trivial, trivial, trivial⟩ hc ?_
  obtain ⟨r15, mi13, ml14, hc, h⟩ := h
  refine ab_wc 3 (c := 78) (as := [.ref 5, .int 0]) (pc := 40) (ll := [some (.ref 5), some (.int r3), some (.int r8), none, none]) (st := []) (c1 := 0) (s1 := 0) (g := (ab_G mi11 ml12)) rfl ⟨trivial, trivial, trivial⟩ hc ?_
  exact ab_wk 3 (f' := (44, [some (.ref 5), some (.int r3), some (.int r8), some (.int r15), some (.int 0)], [], 0, 0, (ab_G mi13 ml14))) rfl ⟨trivial, trivial, trivial, trivial⟩ h
theorem vc_X7_countedPart_44 {call : Nat → List Value → ab_S → Option Value → ab_S → Prop} {ro : ab_E} {Q : Option Value → ab_S → Prop} (y1 : Int32) (y2 : Int32) (y3 : Int32) (y4 : Int32) (mi : Nat → Nat → Int32) (ml : Nat → Nat → Int64)
    (h : ((y4 < 7) → ((((mi 5 1) = 0) → ((((mi 2 3) = 5) → (∃ (mi16 : Nat → Nat → Int32) (ml17 : Nat → Nat → Int64), call 70 [.ref 5, .int 5] (ab_G mi ml) none (ab_G mi16 ml17) ∧ (∃ (r20 : Int64) (mi18 : Nat → Nat → Int32) (ml19 : Nat → Nat → Int64), call 79 [.int 0, .int y3, .int y2, .int y1] (ab_G mi16 ml17) (some (.long r20)) (ab_G mi18 ml19) ∧ (∃ (r23 : Int64) (mi21 : Nat → Nat → Int32) (ml22 : Nat → Nat → Int64), call 79 [.int 64, .int y3, .int y2, .int y1] (ab_G mi18 (ab_ul ml19 5 2 r20)) (some (.long r23)) (ab_G mi21 ml22) ∧ (Q none (ab_G mi21 (ab_ul ml22 5 3 r23))))))) ∧ (¬ ((mi 2 3) = 5) → (∃ (r26 : Int32) (mi24 : Nat → Nat → Int32) (ml25 : Nat → Nat → Int64), call 78 [.ref 5, .int y3] (ab_G mi ml) (some (.int r26)) (ab_G mi24 ml25) ∧ (ab_W call ro 0 0 (ab_lk2 pl_X7_countedPart) Q (44, [some (.ref 5), some (.int y1), some (.int y2), some (.int r26), some (.int (y4 + 1))], [], 0, 0, (ab_G mi24 ml25))))))) ∧ (¬ ((mi 5 1) = 0) → (∃ (mi27 : Nat → Nat → Int32) (ml28 : Nat → Nat → Int64), call 70 [.ref 5, .int 5] (ab_G mi ml) none (ab_G mi27 ml28) ∧ (∃ (r31 : Int64) (mi29 : Nat → Nat → Int32) (ml30 : Nat → Nat → Int64), call 79 [.int 0, .int y3, .int y2, .int y1] (ab_G mi27 ml28) (some (.long r31)) (ab_G mi29 ml30) ∧ (∃ (r34 : Int64) (mi32 : Nat → Nat → Int32) (ml33 : Nat → Nat → Int64), call 79 [.int 64, .int y3, .int y2, .int y1] (ab_G mi29 (ab_ul ml30 5 2 r31)) (some (.long r34)) (ab_G mi32 ml33) ∧ (Q none (ab_G mi32 (ab_ul ml33 5 3 r34))))))))) ∧ (¬ (y4 < 7) → (∃ (mi35 : Nat → Nat → Int32) (ml36 : Nat → Nat → Int64), call 70 [.ref 5, .int 5] (ab_G mi ml) none (ab_G mi35 ml36) ∧ (∃ (r39 : Int64) (mi37 : Nat → Nat → Int32) (ml38 : Nat → Nat → Int64), call 79 [.int 0, .int y3, .int y2, .int y1] (ab_G mi35 ml36) (some (.long r39)) (ab_G mi37 ml38) ∧ (∃ (r42 : Int64) (mi40 : Nat → Nat → Int32) (ml41 : Nat → Nat → Int64), call 79 [.int 64, .int y3, .int y2, .int y1] (ab_G mi37 (ab_ul ml38 5 2 r39)) (some (.long r42)) (ab_G mi40 ml41) ∧ (Q none (ab_G mi40 (ab_ul ml41 5 3 r42)))))))) :
    ab_W call ro 0 0 (ab_lk2 pl_X7_countedPart) Q (44, [some (.ref 5), some (.int y1), some (.int y2), some (.int y3), some (.int y4)], [], 0, 0, ab_G mi ml) := by
  refine ab_wk 3 (f' := (if y4 < 7 then 51 else 81, [some (.ref 5), some (.int y1), some (.int y2), some (.int y3), some (.int y4)], [], 0, 0, (ab_G mi ml))) rfl ⟨trivial, trivial, trivial, trivial⟩ ?_
  refine ab_wi (fun c => ?_) (fun c => ?_)
  · have h := h.1 c
    refine ab_wk 3 (f' := (if (mi 5 1) = 0 then 58 else 81, [some (.ref 5), some (.int y1), some (.int y2), some (.int y3), some (.int y4)], [], 0, 0, (ab_G mi ml))) rfl ⟨trivial, trivial, trivial, trivial⟩ ?_
    refine ab_wi (fun c => ?_) (fun c => ?_)
    · have h := h.1 c
      refine ab_wk 5 (f' := (if (mi 2 3) = 5 then 81 else 69, [some (.ref 5), some (.int y1), some (.int y2), some (.int y3), some (.int y4)], [], 0, 0, (ab_G mi ml))) rfl ⟨trivial, trivial, trivial, trivial, trivial, trivial⟩ ?_
      refine ab_wi (fun c => ?_) (fun c => ?_)
      · have h := h.1 c
        obtain ⟨mi16, ml17, hc, h⟩ := h
        refine ab_wc 3 (c := 70) (as := [.ref 5, .int 5]) (pc := 86) (ll := [some (.ref 5), some (.int y1), some (.int y2), some (.int y3), some (.int y4)]) (st := []) (c1 := 0) (s1 := 0) (g := (ab_G mi ml)) rfl ⟨trivial, trivial, trivial⟩ hc ?_
        obtain ⟨r20, mi18, ml19, hc, h⟩ := h
        refine ab_wc 6 (c := 79) (as := [.int 0, .int y3, .int y2, .int y1]) (pc := 94) (ll := [some (.ref 5), some (.int y1), some (.int y2), some (.int y3), some (.int y4)]) (st := [.ref 5]) (c1 := 0) (s1 := 0) (g := (ab_G mi16 ml17)) rfl ⟨trivial, trivial, trivial, trivial, trivial, trivial⟩ hc ?_
        obtain ⟨r23, mi21, ml22, hc, h⟩ := h
        refine ab_wc 7 (c := 79) (as := [.int 64, .int y3, .int y2, .int y1]) (pc := 106) (ll := [some (.ref 5), some (.int y1), some (.int y2), some (.int y3), some (.int y4)]) (st := [.ref 5]) (c1 := 0) (s1 := 0) (g := (ab_G mi18 (ab_ul ml19 5 2 r20))) rfl ⟨trivial, trivial, trivial, trivial, trivial, trivial, trivial⟩ hc ?_
        exact ab_wr 2 rfl ⟨trivial, trivial⟩ h
      · have h := h.2 c
        obtain ⟨r26, mi24, ml25, hc, h⟩ := h
        refine ab_wc 3 (c := 78) (as := [.ref 5, .int y3]) (pc := 74) (ll := [some (.ref 5), some (.int y1), some (.int y2), some (.int y3), some (.int y4)]) (st := []) (c1 := 0) (s1 := 0) (g := (ab_G mi ml)) rfl ⟨trivial, trivial, trivial⟩ hc ?_
        exact ab_wk 3 (f' := (44, [some (.ref 5), some (.int y1), some (.int y2), some (.int r26), some (.int (y4 + 1))], [], 0, 0, (ab_G mi24 ml25))) rfl ⟨trivial, trivial, trivial, trivial⟩ h
    · have h := h.2 c
      obtain ⟨mi27, ml28, hc, h⟩ := h
      refine ab_wc 3 (c := 70) (as := [.ref 5, .int 5]) (pc := 86) (ll := [some (.ref 5), some (.int y1), some (.int y2), some (.int y3), some (.int y4)]) (st := []) (c1 := 0) (s1 := 0) (g := (ab_G mi ml)) rfl ⟨trivial, trivial, trivial⟩ hc ?_
      obtain ⟨r31, mi29, ml30, hc, h⟩ := h
      refine ab_wc 6 (c := 79) (as := [.int 0, .int y3, .int y2, .int y1]) (pc := 94) (ll := [some (.ref 5), some (.int y1), some (.int y2), some (.int y3), some (.int y4)]) (st := [.ref 5]) (c1 := 0) (s1 := 0) (g := (ab_G mi27 ml28)) rfl ⟨trivial, trivial, trivial, trivial, trivial, trivial⟩ hc ?_
      obtain ⟨r34, mi32, ml33, hc, h⟩ := h
      refine ab_wc 7 (c := 79) (as := [.int 64, .int y3, .int y2, .int y1]) (pc := 106) (ll := [some (.ref 5), some (.int y1), some (.int y2), some (.int y3), some (.int y4)]) (st := [.ref 5]) (c1 := 0) (s1 := 0) (g := (ab_G mi29 (ab_ul ml30 5 2 r31))) rfl ⟨trivial, trivial, trivial, trivial, trivial, trivial, trivial⟩ hc ?_
      exact ab_wr 2 rfl ⟨trivial, trivial⟩ h
  · have h := h.2 c
    obtain ⟨mi35, ml36, hc, h⟩ := h
    refine ab_wc 3 (c := 70) (as := [.ref 5, .int 5]) (pc := 86) (ll := [some (.ref 5), some (.int y1), some (.int y2), some (.int y3), some (.int y4)]) (st := []) (c1 := 0) (s1 := 0) (g := (ab_G mi ml)) rfl ⟨trivial, trivial, trivial⟩ hc ?_
    obtain ⟨r39, mi37, ml38, hc, h⟩ := h
    refine ab_wc 6 (c := 79) (as := [.int 0, .int y3, .int y2, .int y1]) (pc := 94) (ll := [some (.ref 5), some (.int y1), some (.int y2), some (.int y3), some (.int y4)]) (st := [.ref 5]) (c1 := 0) (s1 := 0) (g := (ab_G mi35 ml36)) rfl ⟨trivial, trivial, trivial, trivial, trivial, trivial⟩ hc ?_
    obtain ⟨r42, mi40, ml41, hc, h⟩ := h
    refine ab_wc 7 (c := 79) (as := [.int 64, .int y3, .int y2, .int y1]) (pc := 106) (ll := [some (.ref 5), some (.int y1), some (.int y2), some (.int y3), some (.int y4)]) (st := [.ref 5]) (c1 := 0) (s1 := 0) (g := (ab_G mi37 (ab_ul ml38 5 2 r39))) rfl ⟨trivial, trivial, trivial, trivial, trivial, trivial, trivial⟩ hc ?_
    exact ab_wr 2 rfl ⟨trivial, trivial⟩ h
theorem vc_X7_takeAtom_0 {call : Nat → List Value → ab_S → Option Value → ab_S → Prop} {ro : ab_E} {Q : Option Value → ab_S → Prop} (x1 : Int32) (mi : Nat → Nat → Int32) (ml : Nat → Nat → Int64)
    (h : ∃ (r3 : Int32) (mi1 : Nat → Nat → Int32) (ml2 : Nat → Nat → Int64), call 87 [.ref 2] (ab_G mi ml) (some (.int r3)) (ab_G mi1 ml2) ∧ ((((mi1 5 1) = 0) → (((r3 = (-1)) → (∃ (mi4 : Nat → Nat → Int32) (ml5 : Nat → Nat → Int64), call 67 [.ref 5, .int 1] (ab_G mi1 ml2) none (ab_G mi4 ml5) ∧ (Q (some (.int x1)) (ab_G mi4 ml5)))) ∧ (¬ (r3 = (-1)) → (((((x1 >>> (r3 &&& 31)) &&& 1) = 0) → (∃ (mi6 : Nat → Nat → Int32) (ml7 : Nat → Nat → Int64), call 85 [.ref 2] (ab_G mi1 ml2) none (ab_G mi6 ml7) ∧ (Q (some (.int (x1 ||| ((1 : Int32) <<< (r3 &&& 31))))) (ab_G mi6 ml7)))) ∧ (¬ (((x1 >>> (r3 &&& 31)) &&& 1) = 0) → (∃ (mi8 : Nat → Nat → Int32) (ml9 : Nat → Nat → Int64), call 67 [.ref 5, .int 3] (ab_G mi1 ml2) none (ab_G mi8 ml9) ∧ (Q (some (.int x1)) (ab_G mi8 ml9)))))))) ∧ (¬ ((mi1 5 1) = 0) → (∃ (mi10 : Nat → Nat → Int32) (ml11 : Nat → Nat → Int64), call 67 [.ref 5, .int 1] (ab_G mi1 ml2) none (ab_G mi10 ml11) ∧ (Q (some (.int x1)) (ab_G mi10 ml11)))))) :
    ab_W call ro 0 0 (ab_lk2 pl_X7_takeAtom) Q (0, [some (.ref 5), some (.int x1), none], [], 0, 0, ab_G mi ml) := by
  obtain ⟨r3, mi1, ml2, hc, h⟩ := h
  refine ab_wc 3 (c := 87) (as := [.ref 2]) (pc := 7) (ll := [some (.ref 5), some (.int x1), none]) (st := []) (c1 := 0) (s1 := 0) (g := (ab_G mi ml)) rfl ⟨trivial, trivial, trivial⟩ hc ?_
  refine ab_wk 4 (f' := (if (mi1 5 1) = 0 then 15 else 20, [some (.ref 5), some (.int x1), some (.int r3)], [], 0, 0, (ab_G mi1 ml2))) rfl ⟨trivial, trivial, trivial, trivial, trivial⟩ ?_
  refine ab_wi (fun c => ?_) (fun c => ?_)
  · have h := h.1 c
    refine ab_wk 3 (f' := (if r3 = (-1) then 20 else 27, [some (.ref 5), some (.int x1), some (.int r3)], [], 0, 0, (ab_G mi1 ml2))) rfl ⟨trivial, trivial, trivial, trivial⟩ ?_
    refine ab_wi (fun c => ?_) (fun c => ?_)
    · have h := h.1 c
      obtain ⟨mi4, ml5, hc, h⟩ := h
      refine ab_wc 3 (c := 67) (as := [.ref 5, .int 1]) (pc := 25) (ll := [some (.ref 5), some (.int x1), some (.int r3)]) (st := []) (c1 := 0) (s1 := 0) (g := (ab_G mi1 ml2)) rfl ⟨trivial, trivial, trivial⟩ hc ?_
      exact ab_wr 2 rfl ⟨trivial, trivial⟩ h
    · have h := h.2 c
      refine ab_wk 6 (f' := (if ((x1 >>> (r3 &&& 31)) &&& 1) = 0 then 42 else 35, [some (.ref 5), some (.int x1), some (.int r3)], [], 0, 0, (ab_G mi1 ml2))) rfl ⟨trivial, trivial, trivial, trivial, trivial, trivial, trivial⟩ ?_
      refine ab_wi (fun c => ?_) (fun c => ?_)
      · have h := h.1 c
        obtain ⟨mi6, ml7, hc, h⟩ := h
        refine ab_wc 3 (c := 85) (as := [.ref 2]) (pc := 49) (ll := [some (.ref 5), some (.int x1), some (.int r3)]) (st := []) (c1 := 0) (s1 := 0) (g := (ab_G mi1 ml2)) rfl ⟨trivial, trivial, trivial⟩ hc ?_
        exact ab_wr 6 rfl ⟨trivial, trivial, trivial, trivial, trivial, trivial⟩ h
      · have h := h.2 c
        obtain ⟨mi8, ml9, hc, h⟩ := h
        refine ab_wc 3 (c := 67) (as := [.ref 5, .int 3]) (pc := 40) (ll := [some (.ref 5), some (.int x1), some (.int r3)]) (st := []) (c1 := 0) (s1 := 0) (g := (ab_G mi1 ml2)) rfl ⟨trivial, trivial, trivial⟩ hc ?_
        exact ab_wr 2 rfl ⟨trivial, trivial⟩ h
  · have h := h.2 c
    obtain ⟨mi10, ml11, hc, h⟩ := h
    refine ab_wc 3 (c := 67) (as := [.ref 5, .int 1]) (pc := 25) (ll := [some (.ref 5), some (.int x1), some (.int r3)]) (st := []) (c1 := 0) (s1 := 0) (g := (ab_G mi1 ml2)) rfl ⟨trivial, trivial, trivial⟩ hc ?_
    exact ab_wr 2 rfl ⟨trivial, trivial⟩ h
theorem vc_X7_countedHalf_0 {call : Nat → List Value → ab_S → Option Value → ab_S → Prop} {ro : ab_E} {Q : Option Value → ab_S → Prop} (x0 : Int32) (x1 : Int32) (x2 : Int32) (x3 : Int32) (mi : Nat → Nat → Int32) (ml : Nat → Nat → Int64)
    (h : ab_W call ro 0 0 (ab_lk2 pl_X7_countedHalf) Q (6, [some (.int x0), some (.int x1), some (.int x2), some (.int x3), some (.long 0), none, some (.int 0), none], [], 0, 0, (ab_G mi ml))) :
    ab_W call ro 0 0 (ab_lk2 pl_X7_countedHalf) Q (0, [some (.int x0), some (.int x1), some (.int x2), some (.int x3), none, none, none, none], [], 0, 0, ab_G mi ml) := by
  exact ab_wk 4 (f' := (6, [some (.int x0), some (.int x1), some (.int x2), some (.int x3), some (.long 0), none, some (.int 0), none], [], 0, 0, (ab_G mi ml))) rfl ⟨trivial, trivial, trivial, trivial, trivial⟩ h
theorem vc_X7_countedHalf_6 {call : Nat → List Value → ab_S → Option Value → ab_S → Prop} {ro : ab_E} {Q : Option Value → ab_S → Prop} (y0 : Int32) (y1 : Int32) (y2 : Int32) (y3 : Int32) (y4 : Int64) (y6 : Int32) (mi : Nat → Nat → Int32) (ml : Nat → Nat → Int64)
    (h : ((y6 < 64) → (∃ (r3 : Int32) (mi1 : Nat → Nat → Int32) (ml2 : Nat → Nat → Int64), call 242 [.int ((y0 + y6) &&& y1)] (ab_G mi ml) (some (.int r3)) (ab_G mi1 ml2) ∧ (((y3 = 0) → (((r3 < y2) → (ab_W call ro 0 0 (ab_lk2 pl_X7_countedHalf) Q (6, [some (.int y0), some (.int y1), some (.int y2), some (.int y3), some (.long y4), none, some (.int (y6 + 1)), none], [], 0, 0, (ab_G mi1 ml2)))) ∧ (¬ (r3 < y2) → (ab_W call ro 0 0 (ab_lk2 pl_X7_countedHalf) Q (6, [some (.int y0), some (.int y1), some (.int y2), some (.int y3), some (.long (y4 ||| ((1 : Int64) <<< ((y6).toInt64 &&& 63)))), none, some (.int (y6 + 1)), none], [], 0, 0, (ab_G mi1 ml2)))))) ∧ (¬ (y3 = 0) → (((y2 < r3) → (ab_W call ro 0 0 (ab_lk2 pl_X7_countedHalf) Q (6, [some (.int y0), some (.int y1), some (.int y2), some (.int y3), some (.long y4), none, some (.int (y6 + 1)), none], [], 0, 0, (ab_G mi1 ml2)))) ∧ (¬ (y2 < r3) → (ab_W call ro 0 0 (ab_lk2 pl_X7_countedHalf) Q (6, [some (.int y0), some (.int y1), some (.int y2), some (.int y3), some (.long (y4 ||| ((1 : Int64) <<< ((y6).toInt64 &&& 63)))), none, some (.int (y6 + 1)), none], [], 0, 0, (ab_G mi1 ml2))))))))) ∧ (¬ (y6 < 64) → (Q (some (.long y4)) (ab_G mi ml)))) :
    ab_W call ro 0 0 (ab_lk2 pl_X7_countedHalf) Q (6, [some (.int y0), some (.int y1), some (.int y2), some (.int y3), some (.long y4), none, some (.int y6), none], [], 0, 0, ab_G mi ml) := by
  refine ab_wk 3 (f' := (if y6 < 64 then 13 else 58, [some (.int y0), some (.int y1), some (.int y2), some (.int y3), some (.long y4), none, some (.int y6), none], [], 0, 0, (ab_G mi ml))) rfl ⟨trivial, trivial, trivial, trivial⟩ ?_
  refine ab_wi (fun c => ?_) (fun c => ?_)
  · have h := h.1 c
    obtain ⟨r3, mi1, ml2, hc, h⟩ := h
    refine ab_wc 6 (c := 242) (as := [.int ((y0 + y6) &&& y1)]) (pc := 22) (ll := [some (.int y0), some (.int y1), some (.int y2), some (.int y3), some (.long y4), none, some (.int y6), none]) (st := []) (c1 := 0) (s1 := 0) (g := (ab_G mi ml)) rfl ⟨trivial, trivial, trivial, trivial, trivial, trivial⟩ hc ?_
    refine ab_wk 3 (f' := (if y3 = 0 then 37 else 28, [some (.int y0), some (.int y1), some (.int y2), some (.int y3), some (.long y4), none, some (.int y6), some (.int r3)], [], 0, 0, (ab_G mi1 ml2))) rfl ⟨trivial, trivial, trivial, trivial⟩ ?_
    refine ab_wi (fun c => ?_) (fun c => ?_)
    · have h := h.1 c
      refine ab_wk 3 (f' := (if r3 < y2 then 52 else 43, [some (.int y0), some (.int y1), some (.int y2), some (.int y3), some (.long y4), none, some (.int y6), some (.int r3)], [], 0, 0, (ab_G mi1 ml2))) rfl ⟨trivial, trivial, trivial, trivial⟩ ?_
      refine ab_wi (fun c => ?_) (fun c => ?_)
      · have h := h.1 c
        exact ab_wk 2 (f' := (6, [some (.int y0), some (.int y1), some (.int y2), some (.int y3), some (.long y4), none, some (.int (y6 + 1)), some (.int r3)], [], 0, 0, (ab_G mi1 ml2))) rfl ⟨trivial, trivial, trivial⟩ (ab_drop h (ab_lrc _ (ab_lrc _ (ab_lrc _ (ab_lrc _ (ab_lrc _ (ab_lrc _ (ab_lrc _ (ab_lrn _ ab_lr0)))))))))
      · have h := h.2 c
        exact ab_wk 8 (f' := (6, [some (.int y0), some (.int y1), some (.int y2), some (.int y3), some (.long (y4 ||| ((1 : Int64) <<< ((y6).toInt64 &&& 63)))), none, some (.int (y6 + 1)), some (.int r3)], [], 0, 0, (ab_G mi1 ml2))) rfl ⟨trivial, trivial, trivial, trivial, trivial, trivial, trivial, trivial, trivial⟩ (ab_drop h (ab_lrc _ (ab_lrc _ (ab_lrc _ (ab_lrc _ (ab_lrc _ (ab_lrc _ (ab_lrc _ (ab_lrn _ ab_lr0)))))))))
    · have h := h.2 c
      refine ab_wk 3 (f' := (if y2 < r3 then 52 else 34, [some (.int y0), some (.int y1), some (.int y2), some (.int y3), some (.long y4), none, some (.int y6), some (.int r3)], [], 0, 0, (ab_G mi1 ml2))) rfl ⟨trivial, trivial, trivial, trivial⟩ ?_
      refine ab_wi (fun c => ?_) (fun c => ?_)
      · have h := h.1 c
        exact ab_wk 2 (f' := (6, [some (.int y0), some (.int y1), some (.int y2), some (.int y3), some (.long y4), none, some (.int (y6 + 1)), some (.int r3)], [], 0, 0, (ab_G mi1 ml2))) rfl ⟨trivial, trivial, trivial⟩ (ab_drop h (ab_lrc _ (ab_lrc _ (ab_lrc _ (ab_lrc _ (ab_lrc _ (ab_lrc _ (ab_lrc _ (ab_lrn _ ab_lr0)))))))))
      · have h := h.2 c
        exact ab_wk 9 (f' := (6, [some (.int y0), some (.int y1), some (.int y2), some (.int y3), some (.long (y4 ||| ((1 : Int64) <<< ((y6).toInt64 &&& 63)))), none, some (.int (y6 + 1)), some (.int r3)], [], 0, 0, (ab_G mi1 ml2))) rfl ⟨trivial, trivial, trivial, trivial, trivial, trivial, trivial, trivial, trivial, trivial⟩ (ab_drop h (ab_lrc _ (ab_lrc _ (ab_lrc _ (ab_lrc _ (ab_lrc _ (ab_lrc _ (ab_lrc _ (ab_lrn _ ab_lr0)))))))))
  · have h := h.2 c
    exact ab_wr 2 rfl ⟨trivial, trivial⟩ h
