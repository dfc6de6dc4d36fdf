/-! gain, count. -/
section Q6
variable {ro : ab_E} {d : Nat} {ti mi vi : cM1} {tl ml vl : cM2}
theorem lik_n {n : Nat} (hn : n ≤ 6) {x x' : Int32} (hx : ∀ g, b3 x' g = (decide (g < n) && b3 x g)) {t : Nat} (ht : t < 2 ^ n) : pcn (b3 (nI t &&& x')) 30 = pcn (b3 (nI t &&& x)) 32 := by
  have h6 : 2 ^ n ≤ 2 ^ 6 := Nat.pow_le_pow_right (by decide) hn
  have tb : ∀ i, n ≤ i → t.testBit i = false := fun i hi => Nat.testBit_lt_two_pow (Nat.lt_of_lt_of_le ht (Nat.pow_le_pow_right (by decide) hi))
  have e : b3 (nI t &&& x') = b3 (nI t &&& x) := by
    funext g
    rw [b3_and, b3_and, hx, b3_nI (by omega)]
    by_cases q : g < n
    · simp [q]
    · rw [tb g (by omega)]; simp
  have z : ∀ i, n ≤ i → b3 (nI t &&& x) i = false := fun i hi => by rw [b3_and, b3_nI (by omega), tb i hi]; rfl
  rw [e, pcn_cut (m := n) (by omega) (fun i h1 _ => z i h1), pcn_cut (m := n) (n := 32) (by omega) (fun i h1 _ => z i h1)]
set_option maxHeartbeats 1000000 in
theorem op_gain (x : Int32) : OP ro 126 232 [.int x] := OPq (fun ti tl O OM => by
  have hV := nV_le ti tl
  by_cases cx : ∃ w, w < 6 + 1 ∧ x = nI w
  · obtain ⟨h, hh, rfl⟩ := id cx
    refine ⟨fI (gaiP ti tl h) (nV ti tl), fun mi ml R => ?_, fun vi vl mi ml H => ?_⟩
    · obtain ⟨mi1, ml1, s1, C1⟩ := s_settle (ro := ro) (d := 32) O R.1 R.2
      obtain ⟨mi2, ml2, s2, C2⟩ := s_firstGain (ro := ro) (d := 31) O C1 (h := h) hh
      refine ab_ex_q rfl rfl (fun Q hQ => vc_X11_gain_0 _ mi ml ⟨_, _, s1, _, _, _, s_isHouseC _, ?_⟩)
      rw [pI_1 ⟨h, hh, rfl⟩]
      exact ⟨fun q => (by cases q), fun _ => ⟨_, _, _, s2, hQ _ _ C2.r⟩⟩
    · obtain ⟨mi1, ml1, s1, M1, V1⟩ := s_findGoes (ro := ro) (d := 34) O OM (H.t 0)
      obtain ⟨r, s2, hr⟩ := s_wantedBy (ro := ro) (d := 37) (ml := ml1) O V1 (h := h) hh
      have s3 := s_firstResult (ro := ro) (d := 36) (ml := ml1) O V1
      refine ab_ex_q rfl rfl (fun Q hQ => vc_X12_gain_0 _ mi ml ⟨_, _, _, s_withinN _ 6 (by decide), ?_⟩)
      rw [pI_1 cx]
      refine ⟨fun q => (by cases q), fun _ => ⟨_, _, s1, _, _, _, s2, _, _, _, s3, _, _, _, s_bits _, ?_⟩⟩
      have e0 : pcn (b3 (nI (pln ti tl (mst (yT ti)) (nV ti tl)) &&& r)) 30 = pcn (b3 (nI (pln ti tl (passP ti) (nV ti tl)) &&& ti 37 h)) 32 := by
        rw [lik_n hV.1 (x := ti 37 h) hr (pln_lt2 _ (Nat.le_refl _)), pass_eq]
      rw [e0]
      have p0 := pcn_le (b3 (nI (pln ti tl (passP ti) (nV ti tl)) &&& ti 37 h)) 32
      refine up0 (n := nV ti tl) (F := fun g => (∀ j, j < g → ¬ gaiP ti tl h j) → W_X12_gain_43 (cs ro 39) ro Q (nI h) r (nI (pcn (b3 (nI (pln ti tl (passP ti) (nV ti tl)) &&& ti 37 h)) 32)) (-1) (nI g) mi1 ml1) (fun g hg ih hno => ?_) (fun hno => ?_) (fun j hj => absurd hj (Nat.not_lt_zero j))
      · refine vc_X12_gain_43 _ _ _ _ _ mi1 ml1 ⟨_, _, _, s_vM O V1.1 (by decide), ?_⟩
        have hlt : 6 * h + g < 42 := by omega
        have hv : mi1 78 (6 * h + g) = bI (yT ti h g) := V1.2.2 h hh g (by omega)
        -- the votes with this one turned
        have V2 : ∀ v : Int32, v = bI (!yT ti h g) → vB ti tl (yF ti h g) (ab_ui mi1 78 (6 * h + g) v) := fun v ev => ⟨by simp [ui_app]; exact V1.1, fun s hs => by rw [ui_app, if_neg (by decide)]; exact V1.2.1 s hs, fun h' hh' g' hg' => by
          rw [ui_app, if_pos rfl]
          unfold yF
          by_cases e : 6 * h' + g' = 6 * h + g
          · have e1 : h' = h := by omega
            have e2 : g' = g := by omega
            rw [if_pos e, if_pos ⟨e1, e2⟩, e1, e2]; exact ev
          · rw [if_neg e, if_neg (fun q => e (by rw [q.1, q.2]))]; exact V1.2.2 h' hh' g' hg'⟩
        have back : ∀ v w : Int32, w = bI (yT ti h g) → ab_ui (ab_ui mi1 78 (6 * h + g) v) 78 (6 * h + g) w = mi1 := fun v w ew => by
          rw [ui_ui, ew]
          have : ab_ui mi1 78 (6 * h + g) (mi1 78 (6 * h + g)) = mi1 := ui_same _ _ _
          rw [hv] at this
          exact this
        have eg : ∀ v, ab_ui mi1 78 (6 * h + g) v 78 (6 * h + g) = v := fun v => by simp [ui_app]
        have es : pcn (b3 (nI (pln ti tl (mst (yF ti h g)) (nV ti tl)) &&& r)) 30 = pcn (b3 (nI (plnF ti tl h g) &&& ti 37 h)) 32 := by
          rw [lik_n hV.1 (x := ti 37 h) hr (pln_lt2 _ (Nat.le_refl _))]
          unfold plnF
          rw [mstF ti hh (by omega)]
        have p1 := pcn_le (b3 (nI (plnF ti tl h g) &&& ti 37 h)) 32
        have hit : gaiP ti tl h g → W_X12_gain_43 (cs ro 39) ro Q (nI h) r (nI (pcn (b3 (nI (pln ti tl (passP ti) (nV ti tl)) &&& ti 37 h)) 32)) (nI g) (nI (g + 1)) mi1 ml1 := fun c => by
          refine vc_X12_gain_43 _ _ _ _ _ mi1 ml1 ⟨_, _, _, s_vM O V1.1 (by decide), ?_⟩
          rw [fI_hit (P := gaiP ti tl h) c hno hg (by omega)] at hQ
          have fin := hQ _ _ M1.1
          simp (disch := omega) only [nI_ltI, nI_eq, nI_clamp, nI_1, xl_0, xg_0, xe_0, xe_m1, nI_0, xl_1, xl_2, xl_3, xl_4, xl_5, xl_6, xl_7, xl_8, xl_9, xl_10, xl_12, xl_20, xl_30, xl_32, xl_40, xl_41, xl_42, xl_48, xl_57, xl_59, xl_64, xl_97, xl_100, xl_122, xl_126, xl_128, xl_1000, xl_9999, xg_1, xg_2, xg_3, xg_4, xg_5, xg_6, xg_7, xg_8, xg_9, xg_10, xg_12, xg_20, xg_30, xg_32, xg_40, xg_41, xg_42, xg_48, xg_57, xg_59, xg_64, xg_97, xg_100, xg_122, xg_126, xg_128, xg_1000, xg_9999, xe_1, xe_2, xe_3, xe_4, xe_5, xe_6, xe_7, xe_8, xe_9, xe_10, xe_12, xe_20, xe_30, xe_32, xe_40, xe_41, xe_42, xe_48, xe_57, xe_59, xe_64, xe_97, xe_100, xe_122, xe_126, xe_128, xe_1000, xe_9999, true_implies, false_implies, not_true_eq_false, not_false_eq_true, and_true, true_and, forall_const, imp_self, lc_eq, implies_true, vin, Bool.true_eq_false, Bool.false_eq_true, false_and, and_false, or_false, false_or, or_true, true_or]
          exact ⟨fun _ => fin, fun _ => fin⟩
        have miss : ¬ gaiP ti tl h g → W_X12_gain_43 (cs ro 39) ro Q (nI h) r (nI (pcn (b3 (nI (pln ti tl (passP ti) (nV ti tl)) &&& ti 37 h)) 32)) (-1) (nI (g + 1)) mi1 ml1 := fun c => ih (fun j hj => by
          rcases Nat.lt_or_eq_of_le (Nat.le_of_lt_succ hj) with q | q
          · exact hno j q
          · rw [q]; exact c)
        cases hy : yT ti h g with
        | false =>
          have e1 : ((1 : Int32) = 0) = False := eq_false (by decide)
          have hv0 : mi1 78 (6 * h + g) = 0 := by rw [hv, hy]; rfl
          have V3 := V2 1 (by rw [hy]; rfl)
          have b3' := back 1 0 (by rw [hy]; rfl)
          have s4 := s_firstResult (ro := ro) (d := 36) (ml := ml1) O V3
          simp (disch := omega) only [hg, m1_neg, n6, nI_add, hv0, nar_0, nar_1, nI_ltI, nI_eq, nI_clamp, nI_1, xl_0, xg_0, xe_0, xe_m1, nI_0, xl_1, xl_2, xl_3, xl_4, xl_5, xl_6, xl_7, xl_8, xl_9, xl_10, xl_12, xl_20, xl_30, xl_32, xl_40, xl_41, xl_42, xl_48, xl_57, xl_59, xl_64, xl_97, xl_100, xl_122, xl_126, xl_128, xl_1000, xl_9999, xg_1, xg_2, xg_3, xg_4, xg_5, xg_6, xg_7, xg_8, xg_9, xg_10, xg_12, xg_20, xg_30, xg_32, xg_40, xg_41, xg_42, xg_48, xg_57, xg_59, xg_64, xg_97, xg_100, xg_122, xg_126, xg_128, xg_1000, xg_9999, xe_1, xe_2, xe_3, xe_4, xe_5, xe_6, xe_7, xe_8, xe_9, xe_10, xe_12, xe_20, xe_30, xe_32, xe_40, xe_41, xe_42, xe_48, xe_57, xe_59, xe_64, xe_97, xe_100, xe_122, xe_126, xe_128, xe_1000, xe_9999, true_implies, false_implies, not_true_eq_false, not_false_eq_true, and_true, true_and, forall_const, imp_self, lc_eq, implies_true, vin, Bool.true_eq_false, Bool.false_eq_true, false_and, and_false, or_false, false_or, or_true, true_or]
          refine ⟨_, _, _, s4, _, _, _, s_bits _, ?_⟩
          rw [es]
          simp (disch := omega) only [eg, e1, b3', nI_ltI, nI_eq, nI_clamp, nI_1, xl_0, xg_0, xe_0, xe_m1, nI_0, xl_1, xl_2, xl_3, xl_4, xl_5, xl_6, xl_7, xl_8, xl_9, xl_10, xl_12, xl_20, xl_30, xl_32, xl_40, xl_41, xl_42, xl_48, xl_57, xl_59, xl_64, xl_97, xl_100, xl_122, xl_126, xl_128, xl_1000, xl_9999, xg_1, xg_2, xg_3, xg_4, xg_5, xg_6, xg_7, xg_8, xg_9, xg_10, xg_12, xg_20, xg_30, xg_32, xg_40, xg_41, xg_42, xg_48, xg_57, xg_59, xg_64, xg_97, xg_100, xg_122, xg_126, xg_128, xg_1000, xg_9999, xe_1, xe_2, xe_3, xe_4, xe_5, xe_6, xe_7, xe_8, xe_9, xe_10, xe_12, xe_20, xe_30, xe_32, xe_40, xe_41, xe_42, xe_48, xe_57, xe_59, xe_64, xe_97, xe_100, xe_122, xe_126, xe_128, xe_1000, xe_9999, true_implies, false_implies, not_true_eq_false, not_false_eq_true, and_true, true_and, forall_const, imp_self, lc_eq, implies_true, vin, Bool.true_eq_false, Bool.false_eq_true, false_and, and_false, or_false, false_or, or_true, true_or]
          exact ⟨fun c => hit c, fun c => miss c⟩
        | true =>
          have e1 : ((1 : Int32) = 0) = False := eq_false (by decide)
          have e0' : ((0 : Int32) = 0) = True := eq_true rfl
          have hv0 : mi1 78 (6 * h + g) = 1 := by rw [hv, hy]; rfl
          have V3 := V2 0 (by rw [hy]; rfl)
          have b3' := back 0 1 (by rw [hy]; rfl)
          have s4 := s_firstResult (ro := ro) (d := 36) (ml := ml1) O V3
          simp (disch := omega) only [hg, m1_neg, n6, nI_add, hv0, e1, nar_0, nar_1, nI_ltI, nI_eq, nI_clamp, nI_1, xl_0, xg_0, xe_0, xe_m1, nI_0, xl_1, xl_2, xl_3, xl_4, xl_5, xl_6, xl_7, xl_8, xl_9, xl_10, xl_12, xl_20, xl_30, xl_32, xl_40, xl_41, xl_42, xl_48, xl_57, xl_59, xl_64, xl_97, xl_100, xl_122, xl_126, xl_128, xl_1000, xl_9999, xg_1, xg_2, xg_3, xg_4, xg_5, xg_6, xg_7, xg_8, xg_9, xg_10, xg_12, xg_20, xg_30, xg_32, xg_40, xg_41, xg_42, xg_48, xg_57, xg_59, xg_64, xg_97, xg_100, xg_122, xg_126, xg_128, xg_1000, xg_9999, xe_1, xe_2, xe_3, xe_4, xe_5, xe_6, xe_7, xe_8, xe_9, xe_10, xe_12, xe_20, xe_30, xe_32, xe_40, xe_41, xe_42, xe_48, xe_57, xe_59, xe_64, xe_97, xe_100, xe_122, xe_126, xe_128, xe_1000, xe_9999, true_implies, false_implies, not_true_eq_false, not_false_eq_true, and_true, true_and, forall_const, imp_self, lc_eq, implies_true, vin, Bool.true_eq_false, Bool.false_eq_true, false_and, and_false, or_false, false_or, or_true, true_or]
          refine ⟨_, _, _, s4, _, _, _, s_bits _, ?_⟩
          rw [es]
          simp (disch := omega) only [eg, e0', b3', nI_ltI, nI_eq, nI_clamp, nI_1, xl_0, xg_0, xe_0, xe_m1, nI_0, xl_1, xl_2, xl_3, xl_4, xl_5, xl_6, xl_7, xl_8, xl_9, xl_10, xl_12, xl_20, xl_30, xl_32, xl_40, xl_41, xl_42, xl_48, xl_57, xl_59, xl_64, xl_97, xl_100, xl_122, xl_126, xl_128, xl_1000, xl_9999, xg_1, xg_2, xg_3, xg_4, xg_5, xg_6, xg_7, xg_8, xg_9, xg_10, xg_12, xg_20, xg_30, xg_32, xg_40, xg_41, xg_42, xg_48, xg_57, xg_59, xg_64, xg_97, xg_100, xg_122, xg_126, xg_128, xg_1000, xg_9999, xe_1, xe_2, xe_3, xe_4, xe_5, xe_6, xe_7, xe_8, xe_9, xe_10, xe_12, xe_20, xe_30, xe_32, xe_40, xe_41, xe_42, xe_48, xe_57, xe_59, xe_64, xe_97, xe_100, xe_122, xe_126, xe_128, xe_1000, xe_9999, true_implies, false_implies, not_true_eq_false, not_false_eq_true, and_true, true_and, forall_const, imp_self, lc_eq, implies_true, vin, Bool.true_eq_false, Bool.false_eq_true, false_and, and_false, or_false, false_or, or_true, true_or]
          exact ⟨fun c => hit c, fun c => miss c⟩
      · refine vc_X12_gain_43 _ _ _ _ _ mi1 ml1 ⟨_, _, _, s_vM O V1.1 (by decide), ?_⟩
        simp (disch := omega) only [Nat.lt_irrefl, nI_ltI, nI_eq, nI_clamp, nI_1, xl_0, xg_0, xe_0, xe_m1, nI_0, xl_1, xl_2, xl_3, xl_4, xl_5, xl_6, xl_7, xl_8, xl_9, xl_10, xl_12, xl_20, xl_30, xl_32, xl_40, xl_41, xl_42, xl_48, xl_57, xl_59, xl_64, xl_97, xl_100, xl_122, xl_126, xl_128, xl_1000, xl_9999, xg_1, xg_2, xg_3, xg_4, xg_5, xg_6, xg_7, xg_8, xg_9, xg_10, xg_12, xg_20, xg_30, xg_32, xg_40, xg_41, xg_42, xg_48, xg_57, xg_59, xg_64, xg_97, xg_100, xg_122, xg_126, xg_128, xg_1000, xg_9999, xe_1, xe_2, xe_3, xe_4, xe_5, xe_6, xe_7, xe_8, xe_9, xe_10, xe_12, xe_20, xe_30, xe_32, xe_40, xe_41, xe_42, xe_48, xe_57, xe_59, xe_64, xe_97, xe_100, xe_122, xe_126, xe_128, xe_1000, xe_9999, true_implies, false_implies, not_true_eq_false, not_false_eq_true, and_true, true_and, forall_const, imp_self, lc_eq, implies_true, vin, Bool.true_eq_false, Bool.false_eq_true, false_and, and_false, or_false, false_or, or_true, true_or]
        rw [fI_none hno] at hQ
        exact hQ _ _ M1.1
  · refine ⟨-1, fun mi ml R => ?_, fun vi vl mi ml H => ?_⟩
    · obtain ⟨mi1, ml1, s1, C1⟩ := s_settle (ro := ro) (d := 32) O R.1 R.2
      refine ab_ex_q rfl rfl (fun Q hQ => vc_X11_gain_0 _ mi ml ⟨_, _, s1, _, _, _, s_isHouseC _, ?_⟩)
      rw [pI_0 cx]
      exact ⟨fun _ => hQ _ _ C1.r, fun q => absurd rfl q⟩
    · refine ab_ex_q rfl rfl (fun Q hQ => vc_X12_gain_0 _ mi ml ⟨_, _, _, s_withinN _ 6 (by decide), ?_⟩)
      rw [pI_0 cx]
      exact ⟨fun _ => hQ _ _ (H.t 0), fun q => absurd rfl q⟩)
noncomputable def cntR (ti : cM1) (tl : cM2) (k : Nat) : Int32 := if k = 0 then ti 1 0 else if k = 1 then cSeen ti else if k = 2 then nI (nW ti) else if k = 3 then nI (pcn (fun w => pB (seenP ti w)) (nW ti)) else if k = 4 then nI (nG ti tl) else if k = 5 then nI (nC ti) else if k = 6 then nI (pcn (fun c => pB (csP ti c)) (nC ti)) else if k = 7 then ti 2 2 else if k = 8 then nI (pcn (fun w => pB (¬ ti 17 w = -1)) (nW ti)) else nI (nR ti)
theorem c_count (O : okT ti) (R : rP ti tl mi ml) {k : Nat} (hk : k < 10) : ∃ mi' ml', cS ro 40 133 [.ref 0, .int (nI k)] mi ml (some (.int (cntR ti tl k))) mi' ml' ∧ rP ti tl mi' ml' := by
  have e : cSeen mi = cSeen ti := R.1.qcSeen
  have s0 : cS ro 39 13 [.ref 1] mi ml (some (.int (cSeen ti))) mi ml := e ▸ s_seen
  obtain ⟨mi1, ml1, s1, C1⟩ := s_settle (ro := ro) (d := 32) O R.1 R.2
  refine ab_ex_q rfl rfl (fun Q hQ => vc_X11_count_0 _ mi ml ?_)
  by_cases c0 : k = 0
  · unfold cntR at hQ
    rw [if_pos c0] at hQ
    simp (disch := omega) only [eq_true c0, R.1.e1, nI_ltI, nI_eq, nI_clamp, nI_1, xl_0, xg_0, xe_0, xe_m1, nI_0, xl_1, xl_2, xl_3, xl_4, xl_5, xl_6, xl_7, xl_8, xl_9, xl_10, xl_12, xl_20, xl_30, xl_32, xl_40, xl_41, xl_42, xl_48, xl_57, xl_59, xl_64, xl_97, xl_100, xl_122, xl_126, xl_128, xl_1000, xl_9999, xg_1, xg_2, xg_3, xg_4, xg_5, xg_6, xg_7, xg_8, xg_9, xg_10, xg_12, xg_20, xg_30, xg_32, xg_40, xg_41, xg_42, xg_48, xg_57, xg_59, xg_64, xg_97, xg_100, xg_122, xg_126, xg_128, xg_1000, xg_9999, xe_1, xe_2, xe_3, xe_4, xe_5, xe_6, xe_7, xe_8, xe_9, xe_10, xe_12, xe_20, xe_30, xe_32, xe_40, xe_41, xe_42, xe_48, xe_57, xe_59, xe_64, xe_97, xe_100, xe_122, xe_126, xe_128, xe_1000, xe_9999, true_implies, false_implies, not_true_eq_false, not_false_eq_true, and_true, true_and, forall_const, imp_self, lc_eq, implies_true, vin, Bool.true_eq_false, Bool.false_eq_true, false_and, and_false, or_false, false_or, or_true, true_or]
    exact hQ _ _ R
  · skip
    by_cases c1 : k = 1
    · unfold cntR at hQ
      rw [if_neg c0, if_pos c1] at hQ
      simp (disch := omega) only [c0, eq_true c1, nI_ltI, nI_eq, nI_clamp, nI_1, xl_0, xg_0, xe_0, xe_m1, nI_0, xl_1, xl_2, xl_3, xl_4, xl_5, xl_6, xl_7, xl_8, xl_9, xl_10, xl_12, xl_20, xl_30, xl_32, xl_40, xl_41, xl_42, xl_48, xl_57, xl_59, xl_64, xl_97, xl_100, xl_122, xl_126, xl_128, xl_1000, xl_9999, xg_1, xg_2, xg_3, xg_4, xg_5, xg_6, xg_7, xg_8, xg_9, xg_10, xg_12, xg_20, xg_30, xg_32, xg_40, xg_41, xg_42, xg_48, xg_57, xg_59, xg_64, xg_97, xg_100, xg_122, xg_126, xg_128, xg_1000, xg_9999, xe_1, xe_2, xe_3, xe_4, xe_5, xe_6, xe_7, xe_8, xe_9, xe_10, xe_12, xe_20, xe_30, xe_32, xe_40, xe_41, xe_42, xe_48, xe_57, xe_59, xe_64, xe_97, xe_100, xe_122, xe_126, xe_128, xe_1000, xe_9999, true_implies, false_implies, not_true_eq_false, not_false_eq_true, and_true, true_and, forall_const, imp_self, lc_eq, implies_true, vin, Bool.true_eq_false, Bool.false_eq_true, false_and, and_false, or_false, false_or, or_true, true_or]
      exact ⟨_, _, _, s0, hQ _ _ R⟩
    · skip
      by_cases c2 : k = 2
      · unfold cntR at hQ
        rw [if_neg c0, if_neg c1, if_pos c2] at hQ
        simp (disch := omega) only [c0, c1, eq_true c2, R.1.e125, O.W, nI_ltI, nI_eq, nI_clamp, nI_1, xl_0, xg_0, xe_0, xe_m1, nI_0, xl_1, xl_2, xl_3, xl_4, xl_5, xl_6, xl_7, xl_8, xl_9, xl_10, xl_12, xl_20, xl_30, xl_32, xl_40, xl_41, xl_42, xl_48, xl_57, xl_59, xl_64, xl_97, xl_100, xl_122, xl_126, xl_128, xl_1000, xl_9999, xg_1, xg_2, xg_3, xg_4, xg_5, xg_6, xg_7, xg_8, xg_9, xg_10, xg_12, xg_20, xg_30, xg_32, xg_40, xg_41, xg_42, xg_48, xg_57, xg_59, xg_64, xg_97, xg_100, xg_122, xg_126, xg_128, xg_1000, xg_9999, xe_1, xe_2, xe_3, xe_4, xe_5, xe_6, xe_7, xe_8, xe_9, xe_10, xe_12, xe_20, xe_30, xe_32, xe_40, xe_41, xe_42, xe_48, xe_57, xe_59, xe_64, xe_97, xe_100, xe_122, xe_126, xe_128, xe_1000, xe_9999, true_implies, false_implies, not_true_eq_false, not_false_eq_true, and_true, true_and, forall_const, imp_self, lc_eq, implies_true, vin, Bool.true_eq_false, Bool.false_eq_true, false_and, and_false, or_false, false_or, or_true, true_or]
        exact hQ _ _ R
      · skip
        by_cases c3 : k = 3
        · unfold cntR at hQ
          rw [if_neg c0, if_neg c1, if_neg c2, if_pos c3] at hQ
          simp (disch := omega) only [c0, c1, c2, eq_true c3, nI_ltI, nI_eq, nI_clamp, nI_1, xl_0, xg_0, xe_0, xe_m1, nI_0, xl_1, xl_2, xl_3, xl_4, xl_5, xl_6, xl_7, xl_8, xl_9, xl_10, xl_12, xl_20, xl_30, xl_32, xl_40, xl_41, xl_42, xl_48, xl_57, xl_59, xl_64, xl_97, xl_100, xl_122, xl_126, xl_128, xl_1000, xl_9999, xg_1, xg_2, xg_3, xg_4, xg_5, xg_6, xg_7, xg_8, xg_9, xg_10, xg_12, xg_20, xg_30, xg_32, xg_40, xg_41, xg_42, xg_48, xg_57, xg_59, xg_64, xg_97, xg_100, xg_122, xg_126, xg_128, xg_1000, xg_9999, xe_1, xe_2, xe_3, xe_4, xe_5, xe_6, xe_7, xe_8, xe_9, xe_10, xe_12, xe_20, xe_30, xe_32, xe_40, xe_41, xe_42, xe_48, xe_57, xe_59, xe_64, xe_97, xe_100, xe_122, xe_126, xe_128, xe_1000, xe_9999, true_implies, false_implies, not_true_eq_false, not_false_eq_true, and_true, true_and, forall_const, imp_self, lc_eq, implies_true, vin, Bool.true_eq_false, Bool.false_eq_true, false_and, and_false, or_false, false_or, or_true, true_or]
          exact ⟨_, _, _, s0, _, _, _, s_seenOn O R.1, hQ _ _ R⟩
        · skip
          by_cases c4 : k = 4
          · unfold cntR at hQ
            rw [if_neg c0, if_neg c1, if_neg c2, if_neg c3, if_pos c4] at hQ
            simp (disch := omega) only [c0, c1, c2, c3, eq_true c4, nI_ltI, nI_eq, nI_clamp, nI_1, xl_0, xg_0, xe_0, xe_m1, nI_0, xl_1, xl_2, xl_3, xl_4, xl_5, xl_6, xl_7, xl_8, xl_9, xl_10, xl_12, xl_20, xl_30, xl_32, xl_40, xl_41, xl_42, xl_48, xl_57, xl_59, xl_64, xl_97, xl_100, xl_122, xl_126, xl_128, xl_1000, xl_9999, xg_1, xg_2, xg_3, xg_4, xg_5, xg_6, xg_7, xg_8, xg_9, xg_10, xg_12, xg_20, xg_30, xg_32, xg_40, xg_41, xg_42, xg_48, xg_57, xg_59, xg_64, xg_97, xg_100, xg_122, xg_126, xg_128, xg_1000, xg_9999, xe_1, xe_2, xe_3, xe_4, xe_5, xe_6, xe_7, xe_8, xe_9, xe_10, xe_12, xe_20, xe_30, xe_32, xe_40, xe_41, xe_42, xe_48, xe_57, xe_59, xe_64, xe_97, xe_100, xe_122, xe_126, xe_128, xe_1000, xe_9999, true_implies, false_implies, not_true_eq_false, not_false_eq_true, and_true, true_and, forall_const, imp_self, lc_eq, implies_true, vin, Bool.true_eq_false, Bool.false_eq_true, false_and, and_false, or_false, false_or, or_true, true_or]
            refine ⟨_, _, s1, ?_⟩
            rw [C1.2.1.G]
            exact hQ _ _ C1.r
          · skip
            by_cases c5 : k = 5
            · unfold cntR at hQ
              rw [if_neg c0, if_neg c1, if_neg c2, if_neg c3, if_neg c4, if_pos c5] at hQ
              simp (disch := omega) only [c0, c1, c2, c3, c4, eq_true c5, R.1.e182, O.C, nI_ltI, nI_eq, nI_clamp, nI_1, xl_0, xg_0, xe_0, xe_m1, nI_0, xl_1, xl_2, xl_3, xl_4, xl_5, xl_6, xl_7, xl_8, xl_9, xl_10, xl_12, xl_20, xl_30, xl_32, xl_40, xl_41, xl_42, xl_48, xl_57, xl_59, xl_64, xl_97, xl_100, xl_122, xl_126, xl_128, xl_1000, xl_9999, xg_1, xg_2, xg_3, xg_4, xg_5, xg_6, xg_7, xg_8, xg_9, xg_10, xg_12, xg_20, xg_30, xg_32, xg_40, xg_41, xg_42, xg_48, xg_57, xg_59, xg_64, xg_97, xg_100, xg_122, xg_126, xg_128, xg_1000, xg_9999, xe_1, xe_2, xe_3, xe_4, xe_5, xe_6, xe_7, xe_8, xe_9, xe_10, xe_12, xe_20, xe_30, xe_32, xe_40, xe_41, xe_42, xe_48, xe_57, xe_59, xe_64, xe_97, xe_100, xe_122, xe_126, xe_128, xe_1000, xe_9999, true_implies, false_implies, not_true_eq_false, not_false_eq_true, and_true, true_and, forall_const, imp_self, lc_eq, implies_true, vin, Bool.true_eq_false, Bool.false_eq_true, false_and, and_false, or_false, false_or, or_true, true_or]
              exact hQ _ _ R
            · skip
              by_cases c6 : k = 6
              · unfold cntR at hQ
                rw [if_neg c0, if_neg c1, if_neg c2, if_neg c3, if_neg c4, if_neg c5, if_pos c6] at hQ
                simp (disch := omega) only [c0, c1, c2, c3, c4, c5, eq_true c6, nI_ltI, nI_eq, nI_clamp, nI_1, xl_0, xg_0, xe_0, xe_m1, nI_0, xl_1, xl_2, xl_3, xl_4, xl_5, xl_6, xl_7, xl_8, xl_9, xl_10, xl_12, xl_20, xl_30, xl_32, xl_40, xl_41, xl_42, xl_48, xl_57, xl_59, xl_64, xl_97, xl_100, xl_122, xl_126, xl_128, xl_1000, xl_9999, xg_1, xg_2, xg_3, xg_4, xg_5, xg_6, xg_7, xg_8, xg_9, xg_10, xg_12, xg_20, xg_30, xg_32, xg_40, xg_41, xg_42, xg_48, xg_57, xg_59, xg_64, xg_97, xg_100, xg_122, xg_126, xg_128, xg_1000, xg_9999, xe_1, xe_2, xe_3, xe_4, xe_5, xe_6, xe_7, xe_8, xe_9, xe_10, xe_12, xe_20, xe_30, xe_32, xe_40, xe_41, xe_42, xe_48, xe_57, xe_59, xe_64, xe_97, xe_100, xe_122, xe_126, xe_128, xe_1000, xe_9999, true_implies, false_implies, not_true_eq_false, not_false_eq_true, and_true, true_and, forall_const, imp_self, lc_eq, implies_true, vin, Bool.true_eq_false, Bool.false_eq_true, false_and, and_false, or_false, false_or, or_true, true_or]
                exact ⟨_, _, _, s0, _, _, _, s_cSeenOn O R.1, hQ _ _ R⟩
              · skip
                by_cases c7 : k = 7
                · unfold cntR at hQ
                  rw [if_neg c0, if_neg c1, if_neg c2, if_neg c3, if_neg c4, if_neg c5, if_neg c6, if_pos c7] at hQ
                  simp (disch := omega) only [c0, c1, c2, c3, c4, c5, c6, eq_true c7, R.1.e22, nI_ltI, nI_eq, nI_clamp, nI_1, xl_0, xg_0, xe_0, xe_m1, nI_0, xl_1, xl_2, xl_3, xl_4, xl_5, xl_6, xl_7, xl_8, xl_9, xl_10, xl_12, xl_20, xl_30, xl_32, xl_40, xl_41, xl_42, xl_48, xl_57, xl_59, xl_64, xl_97, xl_100, xl_122, xl_126, xl_128, xl_1000, xl_9999, xg_1, xg_2, xg_3, xg_4, xg_5, xg_6, xg_7, xg_8, xg_9, xg_10, xg_12, xg_20, xg_30, xg_32, xg_40, xg_41, xg_42, xg_48, xg_57, xg_59, xg_64, xg_97, xg_100, xg_122, xg_126, xg_128, xg_1000, xg_9999, xe_1, xe_2, xe_3, xe_4, xe_5, xe_6, xe_7, xe_8, xe_9, xe_10, xe_12, xe_20, xe_30, xe_32, xe_40, xe_41, xe_42, xe_48, xe_57, xe_59, xe_64, xe_97, xe_100, xe_122, xe_126, xe_128, xe_1000, xe_9999, true_implies, false_implies, not_true_eq_false, not_false_eq_true, and_true, true_and, forall_const, imp_self, lc_eq, implies_true, vin, Bool.true_eq_false, Bool.false_eq_true, false_and, and_false, or_false, false_or, or_true, true_or]
                  exact hQ _ _ R
                · skip
                  by_cases c8 : k = 8
                  · unfold cntR at hQ
                    rw [if_neg c0, if_neg c1, if_neg c2, if_neg c3, if_neg c4, if_neg c5, if_neg c6, if_neg c7, if_pos c8] at hQ
                    simp (disch := omega) only [c0, c1, c2, c3, c4, c5, c6, c7, eq_true c8, nI_ltI, nI_eq, nI_clamp, nI_1, xl_0, xg_0, xe_0, xe_m1, nI_0, xl_1, xl_2, xl_3, xl_4, xl_5, xl_6, xl_7, xl_8, xl_9, xl_10, xl_12, xl_20, xl_30, xl_32, xl_40, xl_41, xl_42, xl_48, xl_57, xl_59, xl_64, xl_97, xl_100, xl_122, xl_126, xl_128, xl_1000, xl_9999, xg_1, xg_2, xg_3, xg_4, xg_5, xg_6, xg_7, xg_8, xg_9, xg_10, xg_12, xg_20, xg_30, xg_32, xg_40, xg_41, xg_42, xg_48, xg_57, xg_59, xg_64, xg_97, xg_100, xg_122, xg_126, xg_128, xg_1000, xg_9999, xe_1, xe_2, xe_3, xe_4, xe_5, xe_6, xe_7, xe_8, xe_9, xe_10, xe_12, xe_20, xe_30, xe_32, xe_40, xe_41, xe_42, xe_48, xe_57, xe_59, xe_64, xe_97, xe_100, xe_122, xe_126, xe_128, xe_1000, xe_9999, true_implies, false_implies, not_true_eq_false, not_false_eq_true, and_true, true_and, forall_const, imp_self, lc_eq, implies_true, vin, Bool.true_eq_false, Bool.false_eq_true, false_and, and_false, or_false, false_or, or_true, true_or]
                    exact ⟨_, _, _, s_withdrawn O R.1, hQ _ _ R⟩
                  · skip
                    have c9 : k = 9 := by omega
                    unfold cntR at hQ
                    rw [if_neg c0, if_neg c1, if_neg c2, if_neg c3, if_neg c4, if_neg c5, if_neg c6, if_neg c7, if_neg c8] at hQ
                    simp (disch := omega) only [c0, c1, c2, c3, c4, c5, c6, c7, c8, eq_true c9, R.1.e186, O.R, nI_ltI, nI_eq, nI_clamp, nI_1, xl_0, xg_0, xe_0, xe_m1, nI_0, xl_1, xl_2, xl_3, xl_4, xl_5, xl_6, xl_7, xl_8, xl_9, xl_10, xl_12, xl_20, xl_30, xl_32, xl_40, xl_41, xl_42, xl_48, xl_57, xl_59, xl_64, xl_97, xl_100, xl_122, xl_126, xl_128, xl_1000, xl_9999, xg_1, xg_2, xg_3, xg_4, xg_5, xg_6, xg_7, xg_8, xg_9, xg_10, xg_12, xg_20, xg_30, xg_32, xg_40, xg_41, xg_42, xg_48, xg_57, xg_59, xg_64, xg_97, xg_100, xg_122, xg_126, xg_128, xg_1000, xg_9999, xe_1, xe_2, xe_3, xe_4, xe_5, xe_6, xe_7, xe_8, xe_9, xe_10, xe_12, xe_20, xe_30, xe_32, xe_40, xe_41, xe_42, xe_48, xe_57, xe_59, xe_64, xe_97, xe_100, xe_122, xe_126, xe_128, xe_1000, xe_9999, true_implies, false_implies, not_true_eq_false, not_false_eq_true, and_true, true_and, forall_const, imp_self, lc_eq, implies_true, vin, Bool.true_eq_false, Bool.false_eq_true, false_and, and_false, or_false, false_or, or_true, true_or]
                    exact hQ _ _ R
theorem m_count (O : okT ti) (OM : okM ti tl) (H : eqM ti tl vi vl mi ml) {k : Nat} (hk : k < 10) : ∃ mi' ml', cS ro 40 241 [.ref 40, .int (nI k)] mi ml (some (.int (cntR ti tl k))) mi' ml' ∧ eqM ti tl vi vl mi' ml' ∧ mi' 40 0 = 0 ∧ ml' 83 = ml 83 := by
  have hW := O.W2
  have H1 := H.t 0
  have t0 : ab_ui mi 40 0 0 40 0 = 0 := by simp [ui_app]
  have e34 : mi 40 34 = ti 1 0 := by rw [H.s34, OM.s34]
  have e20 : mi 40 20 = nI (nW ti) := by rw [H.s20, OM.s20, O.W]
  have e20' : ab_ui mi 40 0 0 40 20 = nI (nW ti) := by rw [H1.s20, OM.s20, O.W]
  have e69 : mi 40 69 = nI (nC ti) := by rw [H.s69, OM.s69, O.C]
  have e2 : mi 40 2 = ti 2 2 := by rw [H.s2, OM.s2]
  have e30 : mi 40 30 = nI (nR ti) := by rw [H.s30, OM.s30, O.R]
  obtain ⟨mi1, ml1, s1, F1, M1⟩ := s_findGroups (ro := ro) (d := 35) O OM H1
  have yes : ∃ w, w < 9 + 1 ∧ nI k = nI w := ⟨k, hk, rfl⟩
  refine ab_ex_q rfl rfl (fun Q hQ => vc_X12_count_0 _ mi ml ⟨_, _, _, s_withinN _ 9 (by decide), ?_⟩)
  rw [pI_1 yes]
  refine ⟨fun q => (by cases q), fun _ => ?_⟩
  by_cases c0 : k = 0
  · unfold cntR at hQ
    rw [if_pos c0] at hQ
    simp (disch := omega) only [eq_true c0, e34, nI_ltI, nI_eq, nI_clamp, nI_1, xl_0, xg_0, xe_0, xe_m1, nI_0, xl_1, xl_2, xl_3, xl_4, xl_5, xl_6, xl_7, xl_8, xl_9, xl_10, xl_12, xl_20, xl_30, xl_32, xl_40, xl_41, xl_42, xl_48, xl_57, xl_59, xl_64, xl_97, xl_100, xl_122, xl_126, xl_128, xl_1000, xl_9999, xg_1, xg_2, xg_3, xg_4, xg_5, xg_6, xg_7, xg_8, xg_9, xg_10, xg_12, xg_20, xg_30, xg_32, xg_40, xg_41, xg_42, xg_48, xg_57, xg_59, xg_64, xg_97, xg_100, xg_122, xg_126, xg_128, xg_1000, xg_9999, xe_1, xe_2, xe_3, xe_4, xe_5, xe_6, xe_7, xe_8, xe_9, xe_10, xe_12, xe_20, xe_30, xe_32, xe_40, xe_41, xe_42, xe_48, xe_57, xe_59, xe_64, xe_97, xe_100, xe_122, xe_126, xe_128, xe_1000, xe_9999, true_implies, false_implies, not_true_eq_false, not_false_eq_true, and_true, true_and, forall_const, imp_self, lc_eq, implies_true, vin, Bool.true_eq_false, Bool.false_eq_true, false_and, and_false, or_false, false_or, or_true, true_or]
    exact hQ _ _ ⟨H1, t0, rfl⟩
  · skip
    by_cases c1 : k = 1
    · unfold cntR at hQ
      rw [if_neg c0, if_pos c1] at hQ
      simp (disch := omega) only [c0, eq_true c1, nI_ltI, nI_eq, nI_clamp, nI_1, xl_0, xg_0, xe_0, xe_m1, nI_0, xl_1, xl_2, xl_3, xl_4, xl_5, xl_6, xl_7, xl_8, xl_9, xl_10, xl_12, xl_20, xl_30, xl_32, xl_40, xl_41, xl_42, xl_48, xl_57, xl_59, xl_64, xl_97, xl_100, xl_122, xl_126, xl_128, xl_1000, xl_9999, xg_1, xg_2, xg_3, xg_4, xg_5, xg_6, xg_7, xg_8, xg_9, xg_10, xg_12, xg_20, xg_30, xg_32, xg_40, xg_41, xg_42, xg_48, xg_57, xg_59, xg_64, xg_97, xg_100, xg_122, xg_126, xg_128, xg_1000, xg_9999, xe_1, xe_2, xe_3, xe_4, xe_5, xe_6, xe_7, xe_8, xe_9, xe_10, xe_12, xe_20, xe_30, xe_32, xe_40, xe_41, xe_42, xe_48, xe_57, xe_59, xe_64, xe_97, xe_100, xe_122, xe_126, xe_128, xe_1000, xe_9999, true_implies, false_implies, not_true_eq_false, not_false_eq_true, and_true, true_and, forall_const, imp_self, lc_eq, implies_true, vin, Bool.true_eq_false, Bool.false_eq_true, false_and, and_false, or_false, false_or, or_true, true_or]
      exact ⟨_, _, _, s_mview O OM H1, hQ _ _ ⟨H1, t0, rfl⟩⟩
    · skip
      by_cases c2 : k = 2
      · unfold cntR at hQ
        rw [if_neg c0, if_neg c1, if_pos c2] at hQ
        simp (disch := omega) only [c0, c1, eq_true c2, e20, nI_ltI, nI_eq, nI_clamp, nI_1, xl_0, xg_0, xe_0, xe_m1, nI_0, xl_1, xl_2, xl_3, xl_4, xl_5, xl_6, xl_7, xl_8, xl_9, xl_10, xl_12, xl_20, xl_30, xl_32, xl_40, xl_41, xl_42, xl_48, xl_57, xl_59, xl_64, xl_97, xl_100, xl_122, xl_126, xl_128, xl_1000, xl_9999, xg_1, xg_2, xg_3, xg_4, xg_5, xg_6, xg_7, xg_8, xg_9, xg_10, xg_12, xg_20, xg_30, xg_32, xg_40, xg_41, xg_42, xg_48, xg_57, xg_59, xg_64, xg_97, xg_100, xg_122, xg_126, xg_128, xg_1000, xg_9999, xe_1, xe_2, xe_3, xe_4, xe_5, xe_6, xe_7, xe_8, xe_9, xe_10, xe_12, xe_20, xe_30, xe_32, xe_40, xe_41, xe_42, xe_48, xe_57, xe_59, xe_64, xe_97, xe_100, xe_122, xe_126, xe_128, xe_1000, xe_9999, true_implies, false_implies, not_true_eq_false, not_false_eq_true, and_true, true_and, forall_const, imp_self, lc_eq, implies_true, vin, Bool.true_eq_false, Bool.false_eq_true, false_and, and_false, or_false, false_or, or_true, true_or]
        exact hQ _ _ ⟨H1, t0, rfl⟩
      · skip
        by_cases c3 : k = 3
        · unfold cntR at hQ
          rw [if_neg c0, if_neg c1, if_neg c2, if_pos c3] at hQ
          simp (disch := omega) only [c0, c1, c2, eq_true c3, nI_ltI, nI_eq, nI_clamp, nI_1, xl_0, xg_0, xe_0, xe_m1, nI_0, xl_1, xl_2, xl_3, xl_4, xl_5, xl_6, xl_7, xl_8, xl_9, xl_10, xl_12, xl_20, xl_30, xl_32, xl_40, xl_41, xl_42, xl_48, xl_57, xl_59, xl_64, xl_97, xl_100, xl_122, xl_126, xl_128, xl_1000, xl_9999, xg_1, xg_2, xg_3, xg_4, xg_5, xg_6, xg_7, xg_8, xg_9, xg_10, xg_12, xg_20, xg_30, xg_32, xg_40, xg_41, xg_42, xg_48, xg_57, xg_59, xg_64, xg_97, xg_100, xg_122, xg_126, xg_128, xg_1000, xg_9999, xe_1, xe_2, xe_3, xe_4, xe_5, xe_6, xe_7, xe_8, xe_9, xe_10, xe_12, xe_20, xe_30, xe_32, xe_40, xe_41, xe_42, xe_48, xe_57, xe_59, xe_64, xe_97, xe_100, xe_122, xe_126, xe_128, xe_1000, xe_9999, true_implies, false_implies, not_true_eq_false, not_false_eq_true, and_true, true_and, forall_const, imp_self, lc_eq, implies_true, vin, Bool.true_eq_false, Bool.false_eq_true, false_and, and_false, or_false, false_or, or_true, true_or]
          refine up0 (n := nW ti) (F := fun i => W_X12_count_93 (cs ro 39) ro Q (nI k) (nI (pcn (fun w => pB (seenP ti w)) i)) (nI i) (ab_ui mi 40 0 0) ml) (fun i hi ih => ?_) ?_
          · refine vc_X12_count_93 _ _ _ _ ml ?_
            simp (disch := omega) only [e20', hi, Int32.add_zero, nI_ltI, nI_eq, nI_clamp, nI_1, xl_0, xg_0, xe_0, xe_m1, nI_0, xl_1, xl_2, xl_3, xl_4, xl_5, xl_6, xl_7, xl_8, xl_9, xl_10, xl_12, xl_20, xl_30, xl_32, xl_40, xl_41, xl_42, xl_48, xl_57, xl_59, xl_64, xl_97, xl_100, xl_122, xl_126, xl_128, xl_1000, xl_9999, xg_1, xg_2, xg_3, xg_4, xg_5, xg_6, xg_7, xg_8, xg_9, xg_10, xg_12, xg_20, xg_30, xg_32, xg_40, xg_41, xg_42, xg_48, xg_57, xg_59, xg_64, xg_97, xg_100, xg_122, xg_126, xg_128, xg_1000, xg_9999, xe_1, xe_2, xe_3, xe_4, xe_5, xe_6, xe_7, xe_8, xe_9, xe_10, xe_12, xe_20, xe_30, xe_32, xe_40, xe_41, xe_42, xe_48, xe_57, xe_59, xe_64, xe_97, xe_100, xe_122, xe_126, xe_128, xe_1000, xe_9999, true_implies, false_implies, not_true_eq_false, not_false_eq_true, and_true, true_and, forall_const, imp_self, lc_eq, implies_true, vin, Bool.true_eq_false, Bool.false_eq_true, false_and, and_false, or_false, false_or, or_true, true_or]
            refine ⟨_, _, _, s_misSeen O OM H1 _, ?_⟩
            have eq1 : (∃ v, v < nW ti ∧ nI i = nI v ∧ seenP ti v) ↔ seenP ti i := by
              constructor
              · rintro ⟨v, h1, h2, h3⟩
                rw [nI_eq (by omega) (by omega)] at h2
                rw [h2]; exact h3
              · exact fun h => ⟨i, hi, rfl, h⟩
            rw [pI_e0, eq1]
            refine ⟨fun c => ?_, fun c => ?_⟩
            · rw [pcn_s0 (f := fun w => pB (seenP ti w)) (n := i) (pB_f.2 c)]; exact ih
            · rw [pcn_s1 (f := fun w => pB (seenP ti w)) (n := i) (pB_iff.2 (Classical.not_not.1 c))]; exact ih
          · refine vc_X12_count_93 _ _ _ _ ml ?_
            simp (disch := omega) only [e20', Nat.lt_irrefl, nI_ltI, nI_eq, nI_clamp, nI_1, xl_0, xg_0, xe_0, xe_m1, nI_0, xl_1, xl_2, xl_3, xl_4, xl_5, xl_6, xl_7, xl_8, xl_9, xl_10, xl_12, xl_20, xl_30, xl_32, xl_40, xl_41, xl_42, xl_48, xl_57, xl_59, xl_64, xl_97, xl_100, xl_122, xl_126, xl_128, xl_1000, xl_9999, xg_1, xg_2, xg_3, xg_4, xg_5, xg_6, xg_7, xg_8, xg_9, xg_10, xg_12, xg_20, xg_30, xg_32, xg_40, xg_41, xg_42, xg_48, xg_57, xg_59, xg_64, xg_97, xg_100, xg_122, xg_126, xg_128, xg_1000, xg_9999, xe_1, xe_2, xe_3, xe_4, xe_5, xe_6, xe_7, xe_8, xe_9, xe_10, xe_12, xe_20, xe_30, xe_32, xe_40, xe_41, xe_42, xe_48, xe_57, xe_59, xe_64, xe_97, xe_100, xe_122, xe_126, xe_128, xe_1000, xe_9999, true_implies, false_implies, not_true_eq_false, not_false_eq_true, and_true, true_and, forall_const, imp_self, lc_eq, implies_true, vin, Bool.true_eq_false, Bool.false_eq_true, false_and, and_false, or_false, false_or, or_true, true_or]
            exact hQ _ _ ⟨H1, t0, rfl⟩
        · skip
          by_cases c4 : k = 4
          · unfold cntR at hQ
            rw [if_neg c0, if_neg c1, if_neg c2, if_neg c3, if_pos c4] at hQ
            simp (disch := omega) only [c0, c1, c2, c3, eq_true c4, nI_ltI, nI_eq, nI_clamp, nI_1, xl_0, xg_0, xe_0, xe_m1, nI_0, xl_1, xl_2, xl_3, xl_4, xl_5, xl_6, xl_7, xl_8, xl_9, xl_10, xl_12, xl_20, xl_30, xl_32, xl_40, xl_41, xl_42, xl_48, xl_57, xl_59, xl_64, xl_97, xl_100, xl_122, xl_126, xl_128, xl_1000, xl_9999, xg_1, xg_2, xg_3, xg_4, xg_5, xg_6, xg_7, xg_8, xg_9, xg_10, xg_12, xg_20, xg_30, xg_32, xg_40, xg_41, xg_42, xg_48, xg_57, xg_59, xg_64, xg_97, xg_100, xg_122, xg_126, xg_128, xg_1000, xg_9999, xe_1, xe_2, xe_3, xe_4, xe_5, xe_6, xe_7, xe_8, xe_9, xe_10, xe_12, xe_20, xe_30, xe_32, xe_40, xe_41, xe_42, xe_48, xe_57, xe_59, xe_64, xe_97, xe_100, xe_122, xe_126, xe_128, xe_1000, xe_9999, true_implies, false_implies, not_true_eq_false, not_false_eq_true, and_true, true_and, forall_const, imp_self, lc_eq, implies_true, vin, Bool.true_eq_false, Bool.false_eq_true, false_and, and_false, or_false, false_or, or_true, true_or]
            refine ⟨_, _, s1, ?_⟩
            rw [M1.2.1]
            exact hQ _ _ ⟨M1.1, (F1.1 40 0 rfl).trans t0, F1.cl (fun _ => rfl)⟩
          · skip
            by_cases c5 : k = 5
            · unfold cntR at hQ
              rw [if_neg c0, if_neg c1, if_neg c2, if_neg c3, if_neg c4, if_pos c5] at hQ
              simp (disch := omega) only [c0, c1, c2, c3, c4, eq_true c5, e69, nI_ltI, nI_eq, nI_clamp, nI_1, xl_0, xg_0, xe_0, xe_m1, nI_0, xl_1, xl_2, xl_3, xl_4, xl_5, xl_6, xl_7, xl_8, xl_9, xl_10, xl_12, xl_20, xl_30, xl_32, xl_40, xl_41, xl_42, xl_48, xl_57, xl_59, xl_64, xl_97, xl_100, xl_122, xl_126, xl_128, xl_1000, xl_9999, xg_1, xg_2, xg_3, xg_4, xg_5, xg_6, xg_7, xg_8, xg_9, xg_10, xg_12, xg_20, xg_30, xg_32, xg_40, xg_41, xg_42, xg_48, xg_57, xg_59, xg_64, xg_97, xg_100, xg_122, xg_126, xg_128, xg_1000, xg_9999, xe_1, xe_2, xe_3, xe_4, xe_5, xe_6, xe_7, xe_8, xe_9, xe_10, xe_12, xe_20, xe_30, xe_32, xe_40, xe_41, xe_42, xe_48, xe_57, xe_59, xe_64, xe_97, xe_100, xe_122, xe_126, xe_128, xe_1000, xe_9999, true_implies, false_implies, not_true_eq_false, not_false_eq_true, and_true, true_and, forall_const, imp_self, lc_eq, implies_true, vin, Bool.true_eq_false, Bool.false_eq_true, false_and, and_false, or_false, false_or, or_true, true_or]
              exact hQ _ _ ⟨H1, t0, rfl⟩
            · skip
              by_cases c6 : k = 6
              · unfold cntR at hQ
                rw [if_neg c0, if_neg c1, if_neg c2, if_neg c3, if_neg c4, if_neg c5, if_pos c6] at hQ
                simp (disch := omega) only [c0, c1, c2, c3, c4, c5, eq_true c6, nI_ltI, nI_eq, nI_clamp, nI_1, xl_0, xg_0, xe_0, xe_m1, nI_0, xl_1, xl_2, xl_3, xl_4, xl_5, xl_6, xl_7, xl_8, xl_9, xl_10, xl_12, xl_20, xl_30, xl_32, xl_40, xl_41, xl_42, xl_48, xl_57, xl_59, xl_64, xl_97, xl_100, xl_122, xl_126, xl_128, xl_1000, xl_9999, xg_1, xg_2, xg_3, xg_4, xg_5, xg_6, xg_7, xg_8, xg_9, xg_10, xg_12, xg_20, xg_30, xg_32, xg_40, xg_41, xg_42, xg_48, xg_57, xg_59, xg_64, xg_97, xg_100, xg_122, xg_126, xg_128, xg_1000, xg_9999, xe_1, xe_2, xe_3, xe_4, xe_5, xe_6, xe_7, xe_8, xe_9, xe_10, xe_12, xe_20, xe_30, xe_32, xe_40, xe_41, xe_42, xe_48, xe_57, xe_59, xe_64, xe_97, xe_100, xe_122, xe_126, xe_128, xe_1000, xe_9999, true_implies, false_implies, not_true_eq_false, not_false_eq_true, and_true, true_and, forall_const, imp_self, lc_eq, implies_true, vin, Bool.true_eq_false, Bool.false_eq_true, false_and, and_false, or_false, false_or, or_true, true_or]
                exact ⟨_, _, _, s_casesSeen O OM H1, hQ _ _ ⟨H1, t0, rfl⟩⟩
              · skip
                by_cases c7 : k = 7
                · unfold cntR at hQ
                  rw [if_neg c0, if_neg c1, if_neg c2, if_neg c3, if_neg c4, if_neg c5, if_neg c6, if_pos c7] at hQ
                  simp (disch := omega) only [c0, c1, c2, c3, c4, c5, c6, eq_true c7, e2, nI_ltI, nI_eq, nI_clamp, nI_1, xl_0, xg_0, xe_0, xe_m1, nI_0, xl_1, xl_2, xl_3, xl_4, xl_5, xl_6, xl_7, xl_8, xl_9, xl_10, xl_12, xl_20, xl_30, xl_32, xl_40, xl_41, xl_42, xl_48, xl_57, xl_59, xl_64, xl_97, xl_100, xl_122, xl_126, xl_128, xl_1000, xl_9999, xg_1, xg_2, xg_3, xg_4, xg_5, xg_6, xg_7, xg_8, xg_9, xg_10, xg_12, xg_20, xg_30, xg_32, xg_40, xg_41, xg_42, xg_48, xg_57, xg_59, xg_64, xg_97, xg_100, xg_122, xg_126, xg_128, xg_1000, xg_9999, xe_1, xe_2, xe_3, xe_4, xe_5, xe_6, xe_7, xe_8, xe_9, xe_10, xe_12, xe_20, xe_30, xe_32, xe_40, xe_41, xe_42, xe_48, xe_57, xe_59, xe_64, xe_97, xe_100, xe_122, xe_126, xe_128, xe_1000, xe_9999, true_implies, false_implies, not_true_eq_false, not_false_eq_true, and_true, true_and, forall_const, imp_self, lc_eq, implies_true, vin, Bool.true_eq_false, Bool.false_eq_true, false_and, and_false, or_false, false_or, or_true, true_or]
                  exact hQ _ _ ⟨H1, t0, rfl⟩
                · skip
                  by_cases c8 : k = 8
                  · unfold cntR at hQ
                    rw [if_neg c0, if_neg c1, if_neg c2, if_neg c3, if_neg c4, if_neg c5, if_neg c6, if_neg c7, if_pos c8] at hQ
                    simp (disch := omega) only [c0, c1, c2, c3, c4, c5, c6, c7, eq_true c8, nI_ltI, nI_eq, nI_clamp, nI_1, xl_0, xg_0, xe_0, xe_m1, nI_0, xl_1, xl_2, xl_3, xl_4, xl_5, xl_6, xl_7, xl_8, xl_9, xl_10, xl_12, xl_20, xl_30, xl_32, xl_40, xl_41, xl_42, xl_48, xl_57, xl_59, xl_64, xl_97, xl_100, xl_122, xl_126, xl_128, xl_1000, xl_9999, xg_1, xg_2, xg_3, xg_4, xg_5, xg_6, xg_7, xg_8, xg_9, xg_10, xg_12, xg_20, xg_30, xg_32, xg_40, xg_41, xg_42, xg_48, xg_57, xg_59, xg_64, xg_97, xg_100, xg_122, xg_126, xg_128, xg_1000, xg_9999, xe_1, xe_2, xe_3, xe_4, xe_5, xe_6, xe_7, xe_8, xe_9, xe_10, xe_12, xe_20, xe_30, xe_32, xe_40, xe_41, xe_42, xe_48, xe_57, xe_59, xe_64, xe_97, xe_100, xe_122, xe_126, xe_128, xe_1000, xe_9999, true_implies, false_implies, not_true_eq_false, not_false_eq_true, and_true, true_and, forall_const, imp_self, lc_eq, implies_true, vin, Bool.true_eq_false, Bool.false_eq_true, false_and, and_false, or_false, false_or, or_true, true_or]
                    refine up0 (n := nW ti) (F := fun i => W_X12_count_151 (cs ro 39) ro Q (nI k) (nI (pcn (fun w => pB (¬ ti 17 w = -1)) i)) (nI i) (ab_ui mi 40 0 0) ml) (fun i hi ih => ?_) ?_
                    · refine vc_X12_count_151 _ _ _ _ ml ?_
                      have e59 : ab_ui mi 40 0 0 59 i = ti 17 i := by rw [H1.e59, (OM.w i hi).2.2.2.2]
                      simp (disch := omega) only [e20', hi, e59, gone_neg O hi, Int32.add_zero, nI_ltI, nI_eq, nI_clamp, nI_1, xl_0, xg_0, xe_0, xe_m1, nI_0, xl_1, xl_2, xl_3, xl_4, xl_5, xl_6, xl_7, xl_8, xl_9, xl_10, xl_12, xl_20, xl_30, xl_32, xl_40, xl_41, xl_42, xl_48, xl_57, xl_59, xl_64, xl_97, xl_100, xl_122, xl_126, xl_128, xl_1000, xl_9999, xg_1, xg_2, xg_3, xg_4, xg_5, xg_6, xg_7, xg_8, xg_9, xg_10, xg_12, xg_20, xg_30, xg_32, xg_40, xg_41, xg_42, xg_48, xg_57, xg_59, xg_64, xg_97, xg_100, xg_122, xg_126, xg_128, xg_1000, xg_9999, xe_1, xe_2, xe_3, xe_4, xe_5, xe_6, xe_7, xe_8, xe_9, xe_10, xe_12, xe_20, xe_30, xe_32, xe_40, xe_41, xe_42, xe_48, xe_57, xe_59, xe_64, xe_97, xe_100, xe_122, xe_126, xe_128, xe_1000, xe_9999, true_implies, false_implies, not_true_eq_false, not_false_eq_true, and_true, true_and, forall_const, imp_self, lc_eq, implies_true, vin, Bool.true_eq_false, Bool.false_eq_true, false_and, and_false, or_false, false_or, or_true, true_or]
                      refine ⟨fun c => ?_, fun c => ?_⟩
                      · rw [pcn_s0 (f := fun w => pB (¬ ti 17 w = -1)) (n := i) (pB_f.2 (fun h => h c))]; exact ih
                      · rw [pcn_s1 (f := fun w => pB (¬ ti 17 w = -1)) (n := i) (pB_iff.2 c)]; exact ih
                    · refine vc_X12_count_151 _ _ _ _ ml ?_
                      simp (disch := omega) only [e20', Nat.lt_irrefl, nI_ltI, nI_eq, nI_clamp, nI_1, xl_0, xg_0, xe_0, xe_m1, nI_0, xl_1, xl_2, xl_3, xl_4, xl_5, xl_6, xl_7, xl_8, xl_9, xl_10, xl_12, xl_20, xl_30, xl_32, xl_40, xl_41, xl_42, xl_48, xl_57, xl_59, xl_64, xl_97, xl_100, xl_122, xl_126, xl_128, xl_1000, xl_9999, xg_1, xg_2, xg_3, xg_4, xg_5, xg_6, xg_7, xg_8, xg_9, xg_10, xg_12, xg_20, xg_30, xg_32, xg_40, xg_41, xg_42, xg_48, xg_57, xg_59, xg_64, xg_97, xg_100, xg_122, xg_126, xg_128, xg_1000, xg_9999, xe_1, xe_2, xe_3, xe_4, xe_5, xe_6, xe_7, xe_8, xe_9, xe_10, xe_12, xe_20, xe_30, xe_32, xe_40, xe_41, xe_42, xe_48, xe_57, xe_59, xe_64, xe_97, xe_100, xe_122, xe_126, xe_128, xe_1000, xe_9999, true_implies, false_implies, not_true_eq_false, not_false_eq_true, and_true, true_and, forall_const, imp_self, lc_eq, implies_true, vin, Bool.true_eq_false, Bool.false_eq_true, false_and, and_false, or_false, false_or, or_true, true_or]
                      exact hQ _ _ ⟨H1, t0, rfl⟩
                  · skip
                    have c9 : k = 9 := by omega
                    unfold cntR at hQ
                    rw [if_neg c0, if_neg c1, if_neg c2, if_neg c3, if_neg c4, if_neg c5, if_neg c6, if_neg c7, if_neg c8] at hQ
                    simp (disch := omega) only [c0, c1, c2, c3, c4, c5, c6, c7, c8, eq_true c9, e30, nI_ltI, nI_eq, nI_clamp, nI_1, xl_0, xg_0, xe_0, xe_m1, nI_0, xl_1, xl_2, xl_3, xl_4, xl_5, xl_6, xl_7, xl_8, xl_9, xl_10, xl_12, xl_20, xl_30, xl_32, xl_40, xl_41, xl_42, xl_48, xl_57, xl_59, xl_64, xl_97, xl_100, xl_122, xl_126, xl_128, xl_1000, xl_9999, xg_1, xg_2, xg_3, xg_4, xg_5, xg_6, xg_7, xg_8, xg_9, xg_10, xg_12, xg_20, xg_30, xg_32, xg_40, xg_41, xg_42, xg_48, xg_57, xg_59, xg_64, xg_97, xg_100, xg_122, xg_126, xg_128, xg_1000, xg_9999, xe_1, xe_2, xe_3, xe_4, xe_5, xe_6, xe_7, xe_8, xe_9, xe_10, xe_12, xe_20, xe_30, xe_32, xe_40, xe_41, xe_42, xe_48, xe_57, xe_59, xe_64, xe_97, xe_100, xe_122, xe_126, xe_128, xe_1000, xe_9999, true_implies, false_implies, not_true_eq_false, not_false_eq_true, and_true, true_and, forall_const, imp_self, lc_eq, implies_true, vin, Bool.true_eq_false, Bool.false_eq_true, false_and, and_false, or_false, false_or, or_true, true_or]
                    exact hQ _ _ ⟨H1, t0, rfl⟩
theorem m_count_no (H : eqM ti tl vi vl mi ml) {x : Int32} (hx : ¬ ∃ w, w < 9 + 1 ∧ x = nI w) : ∃ r mi' ml', cS ro 40 241 [.ref 40, .int x] mi ml (some (.int r)) mi' ml' ∧ eqM ti tl vi vl mi' ml' ∧ mi' 40 0 = 1 := by
  have n : ∀ j, j < 10 → ¬ x = nI j := fun j hj e => hx ⟨j, hj, e⟩
  refine ⟨0, ?_⟩
  refine ab_ex_q rfl rfl (fun Q hQ => vc_X12_count_0 _ mi ml ⟨_, _, _, s_withinN _ 9 (by decide), ?_⟩)
  rw [pI_0 hx]
  exact ⟨fun _ => ⟨fun q => absurd q (n 0 (by decide)), fun _ => ⟨fun q => absurd q (n 1 (by decide)), fun _ => ⟨fun q => absurd q (n 2 (by decide)), fun _ => ⟨fun q => absurd q (n 3 (by decide)), fun _ => ⟨fun q => absurd q (n 4 (by decide)), fun _ => ⟨fun q => absurd q (n 5 (by decide)), fun _ => ⟨fun q => absurd q (n 6 (by decide)), fun _ => ⟨fun q => absurd q (n 7 (by decide)), fun _ => ⟨fun q => absurd q (n 8 (by decide)), fun _ => ⟨fun q => absurd q (n 9 (by decide)), fun _ => hQ _ _ ⟨H.t 1, by simp [ui_app]⟩⟩⟩⟩⟩⟩⟩⟩⟩⟩⟩, fun q => absurd rfl q⟩
end Q6
