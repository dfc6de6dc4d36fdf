/-! The reference: worlds, cases, weights. -/
def mgI (k j : Nat) : Bool := (Nat.beq k 40 && Nat.beq j 45) || Nat.beq k 68 || Nat.beq k 69
theorem b6_a1 (x : Int64) {k : Nat} (h : k < 64) : ((x >>> ((nI k).toInt64 &&& 63)) &&& 1 = 1) = (b6 x k = true) := by rw [b6_at x h, it61]
theorem pcn_wB (a b : Int64) : pcn (wB a b) 128 = pcn (b6 a) 64 + pcn (b6 b) 64 := by
  have h1 : pcn (wB a b) 64 = pcn (b6 a) 64 := pcn_congr (fun i hi => by unfold wB; rw [if_pos hi])
  have h2 : pcn (fun i => wB a b (64 + i)) 64 = pcn (b6 b) 64 := pcn_congr (fun i hi => by unfold wB; rw [if_neg (by omega), show 64 + i - 64 = i by omega])
  have h3 := pcn_add (wB a b) 64 64
  rw [h1, h2] at h3
  exact h3
theorem fI_neg {P : Nat → Prop} {n : Nat} (hn : n < 2 ^ 31) : (fI P n < 0) = (fI P n = -1) := by
  rcases fI_cases P hn with ⟨e, _⟩ | ⟨i, h1, _, _, e⟩
  · rw [e, m1_neg]; simp
  · rw [e, xl_0 (by omega), xe_m1 (by omega)]
section MW
variable {ro : ab_E} {d : Nat} {ti mi vi mi' : cM1} {tl ml vl ml' : cM2}
theorem mP.ui (M : mP ti tl vi vl mi ml) {k j : Nat} (v : Int32) (h1 : lmI k j = false) (h2 : mgI k j = false) (hk : 40 ≤ k) : mP ti tl vi vl (ab_ui mi k j v) ml := by
  refine ⟨M.1.ui v h1 hk, ?_, fun w hw => ?_, fun g hg => ?_⟩
  · rw [ui_else (P := mgI) h2 rfl]; exact M.2.1
  · rw [ui_else (P := mgI) h2 rfl]; exact M.2.2.1 w hw
  · rw [ui_else (P := mgI) h2 rfl]; exact M.2.2.2 g hg
theorem s_isIn (a b : Int64) {w : Nat} (hw : w < 128) : cS ro (d + 1) 160 [.long a, .long b, .int (nI w)] mi ml (some (.int (bI (wB a b w)))) mi ml := by
  refine ab_sem_q rfl rfl (fun Q hQ => vc_X12_isIn_0 _ _ _ mi ml ?_)
  unfold wB at hQ
  by_cases c : w < 64
  · rw [if_pos c] at hQ
    simp (disch := omega) only [c, b6_a1, nI_ltI, nI_eq, nI_clamp, nI_1, xl_0, xg_0, xe_0, xe_m1, nI_0, xl_1, xl_2, xl_3, xl_4, xl_5, xl_6, xl_7, xl_8, xl_9, xl_10, xl_12, xl_20, xl_30, xl_32, xl_40, xl_41, xl_42, xl_48, xl_57, xl_59, xl_64, xl_97, xl_100, xl_122, xl_126, xl_128, xl_1000, xl_9999, xg_1, xg_2, xg_3, xg_4, xg_5, xg_6, xg_7, xg_8, xg_9, xg_10, xg_12, xg_20, xg_30, xg_32, xg_40, xg_41, xg_42, xg_48, xg_57, xg_59, xg_64, xg_97, xg_100, xg_122, xg_126, xg_128, xg_1000, xg_9999, xe_1, xe_2, xe_3, xe_4, xe_5, xe_6, xe_7, xe_8, xe_9, xe_10, xe_12, xe_20, xe_30, xe_32, xe_40, xe_41, xe_42, xe_48, xe_57, xe_59, xe_64, xe_97, xe_100, xe_122, xe_126, xe_128, xe_1000, xe_9999, true_implies, false_implies, not_true_eq_false, not_false_eq_true, and_true, true_and, forall_const, imp_self, lc_eq, implies_true, vin, Bool.true_eq_false, Bool.false_eq_true, false_and, and_false, or_false, false_or, or_true, true_or]
    refine ⟨fun h => ?_, fun h => ?_⟩
    · rw [h] at hQ; exact hQ
    · have : b6 a w = false := by simpa using h
      rw [this] at hQ; exact hQ
  · rw [if_neg c] at hQ
    have e64 : nI w - 64 = nI (w - 64) := nI_m (b := 64) (by omega)
    simp (disch := omega) only [c, e64, b6_a1, nI_ltI, nI_eq, nI_clamp, nI_1, xl_0, xg_0, xe_0, xe_m1, nI_0, xl_1, xl_2, xl_3, xl_4, xl_5, xl_6, xl_7, xl_8, xl_9, xl_10, xl_12, xl_20, xl_30, xl_32, xl_40, xl_41, xl_42, xl_48, xl_57, xl_59, xl_64, xl_97, xl_100, xl_122, xl_126, xl_128, xl_1000, xl_9999, xg_1, xg_2, xg_3, xg_4, xg_5, xg_6, xg_7, xg_8, xg_9, xg_10, xg_12, xg_20, xg_30, xg_32, xg_40, xg_41, xg_42, xg_48, xg_57, xg_59, xg_64, xg_97, xg_100, xg_122, xg_126, xg_128, xg_1000, xg_9999, xe_1, xe_2, xe_3, xe_4, xe_5, xe_6, xe_7, xe_8, xe_9, xe_10, xe_12, xe_20, xe_30, xe_32, xe_40, xe_41, xe_42, xe_48, xe_57, xe_59, xe_64, xe_97, xe_100, xe_122, xe_126, xe_128, xe_1000, xe_9999, true_implies, false_implies, not_true_eq_false, not_false_eq_true, and_true, true_and, forall_const, imp_self, lc_eq, implies_true, vin, Bool.true_eq_false, Bool.false_eq_true, false_and, and_false, or_false, false_or, or_true, true_or]
    refine ⟨fun h => ?_, fun h => ?_⟩
    · rw [h] at hQ; exact hQ
    · have : b6 b (w - 64) = false := by simpa using h
      rw [this] at hQ; exact hQ
theorem s_bits (x : Int32) : cS ro (d + 1) 161 [.int x] mi ml (some (.int (nI (pcn (b3 x) 30)))) mi ml := by
  refine ab_sem_q rfl rfl (fun Q hQ => vc_X12_bits_0 _ mi ml ?_)
  refine up0 (n := 30) (F := fun i => W_X12_bits_4 (cs ro d) ro Q x (nI (pcn (b3 x) i)) (nI i) mi ml) (fun i hi ih => ?_) ?_
  · refine vc_X12_bits_4 _ _ _ mi ml ?_
    simp (disch := omega) only [hi, b3_at, nI_ltI, nI_eq, nI_clamp, nI_1, xl_0, xg_0, xe_0, xe_m1, nI_0, xl_1, xl_2, xl_3, xl_4, xl_5, xl_6, xl_7, xl_8, xl_9, xl_10, xl_12, xl_20, xl_30, xl_32, xl_40, xl_41, xl_42, xl_48, xl_57, xl_59, xl_64, xl_97, xl_100, xl_122, xl_126, xl_128, xl_1000, xl_9999, xg_1, xg_2, xg_3, xg_4, xg_5, xg_6, xg_7, xg_8, xg_9, xg_10, xg_12, xg_20, xg_30, xg_32, xg_40, xg_41, xg_42, xg_48, xg_57, xg_59, xg_64, xg_97, xg_100, xg_122, xg_126, xg_128, xg_1000, xg_9999, xe_1, xe_2, xe_3, xe_4, xe_5, xe_6, xe_7, xe_8, xe_9, xe_10, xe_12, xe_20, xe_30, xe_32, xe_40, xe_41, xe_42, xe_48, xe_57, xe_59, xe_64, xe_97, xe_100, xe_122, xe_126, xe_128, xe_1000, xe_9999, true_implies, false_implies, not_true_eq_false, not_false_eq_true, and_true, true_and, forall_const, imp_self, lc_eq, implies_true, vin, Bool.true_eq_false, Bool.false_eq_true, false_and, and_false, or_false, false_or, or_true, true_or]
    cases hb : b3 x i with
    | true => rw [if_pos rfl, nI_1, pcn_s1 hb]; exact ih
    | false => rw [if_neg (by decide), Int32.add_zero, pcn_s0 hb]; exact ih
  · refine vc_X12_bits_4 _ _ _ mi ml ?_
    simp (disch := omega) only [Nat.lt_irrefl, nI_ltI, nI_eq, nI_clamp, nI_1, xl_0, xg_0, xe_0, xe_m1, nI_0, xl_1, xl_2, xl_3, xl_4, xl_5, xl_6, xl_7, xl_8, xl_9, xl_10, xl_12, xl_20, xl_30, xl_32, xl_40, xl_41, xl_42, xl_48, xl_57, xl_59, xl_64, xl_97, xl_100, xl_122, xl_126, xl_128, xl_1000, xl_9999, xg_1, xg_2, xg_3, xg_4, xg_5, xg_6, xg_7, xg_8, xg_9, xg_10, xg_12, xg_20, xg_30, xg_32, xg_40, xg_41, xg_42, xg_48, xg_57, xg_59, xg_64, xg_97, xg_100, xg_122, xg_126, xg_128, xg_1000, xg_9999, xe_1, xe_2, xe_3, xe_4, xe_5, xe_6, xe_7, xe_8, xe_9, xe_10, xe_12, xe_20, xe_30, xe_32, xe_40, xe_41, xe_42, xe_48, xe_57, xe_59, xe_64, xe_97, xe_100, xe_122, xe_126, xe_128, xe_1000, xe_9999, true_implies, false_implies, not_true_eq_false, not_false_eq_true, and_true, true_and, forall_const, imp_self, lc_eq, implies_true, vin, Bool.true_eq_false, Bool.false_eq_true, false_and, and_false, or_false, false_or, or_true, true_or]
    exact hQ
theorem s_worlds : cS ro (d + 2) 191 [.ref 40] mi ml (some (.int (nI (pcn (b6 (ml 40 40)) 64 + pcn (b6 (ml 40 41)) 64)))) mi ml := by
  rw [← pcn_wB]
  refine ab_sem_q rfl rfl (fun Q hQ => vc_X12_worlds_0 mi ml ?_)
  refine up0 (n := 128) (F := fun i => W_X12_worlds_4 (cs ro (d + 1)) ro Q (nI (pcn (wB (ml 40 40) (ml 40 41)) i)) (nI i) mi ml) (fun i hi ih => ?_) ?_
  · refine vc_X12_worlds_4 _ _ mi ml ?_
    simp (disch := omega) only [hi, Int32.add_zero, nI_ltI, nI_eq, nI_clamp, nI_1, xl_0, xg_0, xe_0, xe_m1, nI_0, xl_1, xl_2, xl_3, xl_4, xl_5, xl_6, xl_7, xl_8, xl_9, xl_10, xl_12, xl_20, xl_30, xl_32, xl_40, xl_41, xl_42, xl_48, xl_57, xl_59, xl_64, xl_97, xl_100, xl_122, xl_126, xl_128, xl_1000, xl_9999, xg_1, xg_2, xg_3, xg_4, xg_5, xg_6, xg_7, xg_8, xg_9, xg_10, xg_12, xg_20, xg_30, xg_32, xg_40, xg_41, xg_42, xg_48, xg_57, xg_59, xg_64, xg_97, xg_100, xg_122, xg_126, xg_128, xg_1000, xg_9999, xe_1, xe_2, xe_3, xe_4, xe_5, xe_6, xe_7, xe_8, xe_9, xe_10, xe_12, xe_20, xe_30, xe_32, xe_40, xe_41, xe_42, xe_48, xe_57, xe_59, xe_64, xe_97, xe_100, xe_122, xe_126, xe_128, xe_1000, xe_9999, true_implies, false_implies, not_true_eq_false, not_false_eq_true, and_true, true_and, forall_const, imp_self, lc_eq, implies_true, vin, Bool.true_eq_false, Bool.false_eq_true, false_and, and_false, or_false, false_or, or_true, true_or]
    refine ⟨_, _, _, s_isIn _ _ hi, ?_⟩
    rw [bI_0]
    refine ⟨fun c => ?_, fun c => ?_⟩
    · rw [pcn_s0 c]; exact ih
    · rw [pcn_s1 (f := wB (ml 40 40) (ml 40 41)) (by simpa using c)]; exact ih
  · refine vc_X12_worlds_4 _ _ mi ml ?_
    simp (disch := omega) only [Nat.lt_irrefl, nI_ltI, nI_eq, nI_clamp, nI_1, xl_0, xg_0, xe_0, xe_m1, nI_0, xl_1, xl_2, xl_3, xl_4, xl_5, xl_6, xl_7, xl_8, xl_9, xl_10, xl_12, xl_20, xl_30, xl_32, xl_40, xl_41, xl_42, xl_48, xl_57, xl_59, xl_64, xl_97, xl_100, xl_122, xl_126, xl_128, xl_1000, xl_9999, xg_1, xg_2, xg_3, xg_4, xg_5, xg_6, xg_7, xg_8, xg_9, xg_10, xg_12, xg_20, xg_30, xg_32, xg_40, xg_41, xg_42, xg_48, xg_57, xg_59, xg_64, xg_97, xg_100, xg_122, xg_126, xg_128, xg_1000, xg_9999, xe_1, xe_2, xe_3, xe_4, xe_5, xe_6, xe_7, xe_8, xe_9, xe_10, xe_12, xe_20, xe_30, xe_32, xe_40, xe_41, xe_42, xe_48, xe_57, xe_59, xe_64, xe_97, xe_100, xe_122, xe_126, xe_128, xe_1000, xe_9999, true_implies, false_implies, not_true_eq_false, not_false_eq_true, and_true, true_and, forall_const, imp_self, lc_eq, implies_true, vin, Bool.true_eq_false, Bool.false_eq_true, false_and, and_false, or_false, false_or, or_true, true_or]
    exact hQ
theorem s_casesSeen (O : okT ti) (OM : okM ti tl) (H : eqM ti tl vi vl mi ml) : cS ro (d + 2) 238 [.ref 40] mi ml (some (.int (nI (pcn (fun c => pB (csP ti c)) (nC ti))))) mi ml := by
  have hC := O.C2
  refine ab_sem_q rfl rfl (fun Q hQ => vc_X12_casesSeen_0 mi ml ?_)
  refine up0 (n := nC ti) (F := fun i => W_X12_casesSeen_4 (cs ro (d + 1)) ro Q (nI (pcn (fun c => pB (csP ti c)) i)) (nI i) mi ml) (fun i hi ih => ?_) ?_
  · refine vc_X12_casesSeen_4 _ _ mi ml ?_
    have ec := (OM.c i hi).2
    simp (disch := omega) only [H.s69, OM.s69, H.e82, ec, O.C, hi, Int32.add_zero, nI_ltI, nI_eq, nI_clamp, nI_1, xl_0, xg_0, xe_0, xe_m1, nI_0, xl_1, xl_2, xl_3, xl_4, xl_5, xl_6, xl_7, xl_8, xl_9, xl_10, xl_12, xl_20, xl_30, xl_32, xl_40, xl_41, xl_42, xl_48, xl_57, xl_59, xl_64, xl_97, xl_100, xl_122, xl_126, xl_128, xl_1000, xl_9999, xg_1, xg_2, xg_3, xg_4, xg_5, xg_6, xg_7, xg_8, xg_9, xg_10, xg_12, xg_20, xg_30, xg_32, xg_40, xg_41, xg_42, xg_48, xg_57, xg_59, xg_64, xg_97, xg_100, xg_122, xg_126, xg_128, xg_1000, xg_9999, xe_1, xe_2, xe_3, xe_4, xe_5, xe_6, xe_7, xe_8, xe_9, xe_10, xe_12, xe_20, xe_30, xe_32, xe_40, xe_41, xe_42, xe_48, xe_57, xe_59, xe_64, xe_97, xe_100, xe_122, xe_126, xe_128, xe_1000, xe_9999, true_implies, false_implies, not_true_eq_false, not_false_eq_true, and_true, true_and, forall_const, imp_self, lc_eq, implies_true, vin, Bool.true_eq_false, Bool.false_eq_true, false_and, and_false, or_false, false_or, or_true, true_or]
    refine ⟨_, _, _, s_mview O OM H, fun c => ?_, fun c => ?_⟩
    · rw [pcn_s0 (f := fun c => pB (csP ti c)) (n := i) (pB_f.2 (fun h => h c))]; exact ih
    · rw [pcn_s1 (f := fun c => pB (csP ti c)) (n := i) (pB_iff.2 c)]; exact ih
  · refine vc_X12_casesSeen_4 _ _ mi ml ?_
    simp (disch := omega) only [H.s69, OM.s69, O.C, Nat.lt_irrefl, nI_ltI, nI_eq, nI_clamp, nI_1, xl_0, xg_0, xe_0, xe_m1, nI_0, xl_1, xl_2, xl_3, xl_4, xl_5, xl_6, xl_7, xl_8, xl_9, xl_10, xl_12, xl_20, xl_30, xl_32, xl_40, xl_41, xl_42, xl_48, xl_57, xl_59, xl_64, xl_97, xl_100, xl_122, xl_126, xl_128, xl_1000, xl_9999, xg_1, xg_2, xg_3, xg_4, xg_5, xg_6, xg_7, xg_8, xg_9, xg_10, xg_12, xg_20, xg_30, xg_32, xg_40, xg_41, xg_42, xg_48, xg_57, xg_59, xg_64, xg_97, xg_100, xg_122, xg_126, xg_128, xg_1000, xg_9999, xe_1, xe_2, xe_3, xe_4, xe_5, xe_6, xe_7, xe_8, xe_9, xe_10, xe_12, xe_20, xe_30, xe_32, xe_40, xe_41, xe_42, xe_48, xe_57, xe_59, xe_64, xe_97, xe_100, xe_122, xe_126, xe_128, xe_1000, xe_9999, true_implies, false_implies, not_true_eq_false, not_false_eq_true, and_true, true_and, forall_const, imp_self, lc_eq, implies_true, vin, Bool.true_eq_false, Bool.false_eq_true, false_and, and_false, or_false, false_or, or_true, true_or]
    exact hQ
theorem s_caseAgainst (O : okT ti) (OM : okM ti tl) (H : eqM ti tl vi vl mi ml) {g : Nat} (hg : g < nR ti) : cS ro (d + 2) 173 [.ref 40, .int (nI g)] mi ml (some (.int (fI (agP ti tl g) (nC ti)))) mi ml := by
  have hC := O.C2
  have hR := O.R2
  refine ab_sem_q rfl rfl (fun Q hQ => vc_X12_caseAgainst_0 _ mi ml ?_)
  refine up0 (n := nC ti) (F := fun i => (∀ j, j < i → ¬ agP ti tl g j) → W_X12_caseAgainst_2 (cs ro (d + 1)) ro Q (nI g) (nI i) mi ml) (fun i hi ih hno => ?_) (fun hno => ?_) (fun j hj => absurd hj (Nat.not_lt_zero j))
  · refine vc_X12_caseAgainst_2 _ _ mi ml ?_
    obtain ⟨⟨x, hx, ex⟩, _⟩ := O.c i hi
    obtain ⟨e1, e2⟩ := OM.c i hi
    obtain ⟨_, e3, e4⟩ := OM.g g hg
    have hn : ¬ agP ti tl g i → ∀ j, j < i + 1 → ¬ agP ti tl g j := fun h j hj => by
      rcases Nat.lt_or_eq_of_le (Nat.le_of_lt_succ hj) with q | q
      · exact hno j q
      · rw [q]; exact h
    simp (disch := omega) only [H.s69, OM.s69, H.e82, H.e81, H.f62, H.f63, e1, e2, e3, e4, O.C, hi, ex, nI_ltI, nI_eq, nI_clamp, nI_1, xl_0, xg_0, xe_0, xe_m1, nI_0, xl_1, xl_2, xl_3, xl_4, xl_5, xl_6, xl_7, xl_8, xl_9, xl_10, xl_12, xl_20, xl_30, xl_32, xl_40, xl_41, xl_42, xl_48, xl_57, xl_59, xl_64, xl_97, xl_100, xl_122, xl_126, xl_128, xl_1000, xl_9999, xg_1, xg_2, xg_3, xg_4, xg_5, xg_6, xg_7, xg_8, xg_9, xg_10, xg_12, xg_20, xg_30, xg_32, xg_40, xg_41, xg_42, xg_48, xg_57, xg_59, xg_64, xg_97, xg_100, xg_122, xg_126, xg_128, xg_1000, xg_9999, xe_1, xe_2, xe_3, xe_4, xe_5, xe_6, xe_7, xe_8, xe_9, xe_10, xe_12, xe_20, xe_30, xe_32, xe_40, xe_41, xe_42, xe_48, xe_57, xe_59, xe_64, xe_97, xe_100, xe_122, xe_126, xe_128, xe_1000, xe_9999, true_implies, false_implies, not_true_eq_false, not_false_eq_true, and_true, true_and, forall_const, imp_self, lc_eq, implies_true, vin, Bool.true_eq_false, Bool.false_eq_true, false_and, and_false, or_false, false_or, or_true, true_or]
    refine ⟨_, _, _, s_mview O OM H, fun c => ih (hn (fun h => h.1 c)), fun c => ?_⟩
    simp (disch := omega) only [H.e81, H.f62, H.f63, e1, e3, e4, ex, nI_ltI, nI_eq, nI_clamp, nI_1, xl_0, xg_0, xe_0, xe_m1, nI_0, xl_1, xl_2, xl_3, xl_4, xl_5, xl_6, xl_7, xl_8, xl_9, xl_10, xl_12, xl_20, xl_30, xl_32, xl_40, xl_41, xl_42, xl_48, xl_57, xl_59, xl_64, xl_97, xl_100, xl_122, xl_126, xl_128, xl_1000, xl_9999, xg_1, xg_2, xg_3, xg_4, xg_5, xg_6, xg_7, xg_8, xg_9, xg_10, xg_12, xg_20, xg_30, xg_32, xg_40, xg_41, xg_42, xg_48, xg_57, xg_59, xg_64, xg_97, xg_100, xg_122, xg_126, xg_128, xg_1000, xg_9999, xe_1, xe_2, xe_3, xe_4, xe_5, xe_6, xe_7, xe_8, xe_9, xe_10, xe_12, xe_20, xe_30, xe_32, xe_40, xe_41, xe_42, xe_48, xe_57, xe_59, xe_64, xe_97, xe_100, xe_122, xe_126, xe_128, xe_1000, xe_9999, true_implies, false_implies, not_true_eq_false, not_false_eq_true, and_true, true_and, forall_const, imp_self, lc_eq, implies_true, vin, Bool.true_eq_false, Bool.false_eq_true, false_and, and_false, or_false, false_or, or_true, true_or]
    refine ⟨_, _, _, s_isIn _ _ hx, ?_⟩
    rw [bI_0]
    have e : wB (tl 22 g) (tl 23 g) x = wB (tl 22 g) (tl 23 g) (ti 19 i).toNatClampNeg := by
      rw [ex, nI_clamp (by omega)]
    rw [e]
    refine ⟨fun c2 => ?_, fun c2 => ih (hn (fun h => c2 h.2))⟩
    rw [fI_hit (P := agP ti tl g) ⟨c, c2⟩ hno hi (by omega)] at hQ
    exact hQ
  · refine vc_X12_caseAgainst_2 _ _ mi ml ?_
    simp (disch := omega) only [H.s69, OM.s69, O.C, Nat.lt_irrefl, nI_ltI, nI_eq, nI_clamp, nI_1, xl_0, xg_0, xe_0, xe_m1, nI_0, xl_1, xl_2, xl_3, xl_4, xl_5, xl_6, xl_7, xl_8, xl_9, xl_10, xl_12, xl_20, xl_30, xl_32, xl_40, xl_41, xl_42, xl_48, xl_57, xl_59, xl_64, xl_97, xl_100, xl_122, xl_126, xl_128, xl_1000, xl_9999, xg_1, xg_2, xg_3, xg_4, xg_5, xg_6, xg_7, xg_8, xg_9, xg_10, xg_12, xg_20, xg_30, xg_32, xg_40, xg_41, xg_42, xg_48, xg_57, xg_59, xg_64, xg_97, xg_100, xg_122, xg_126, xg_128, xg_1000, xg_9999, xe_1, xe_2, xe_3, xe_4, xe_5, xe_6, xe_7, xe_8, xe_9, xe_10, xe_12, xe_20, xe_30, xe_32, xe_40, xe_41, xe_42, xe_48, xe_57, xe_59, xe_64, xe_97, xe_100, xe_122, xe_126, xe_128, xe_1000, xe_9999, true_implies, false_implies, not_true_eq_false, not_false_eq_true, and_true, true_and, forall_const, imp_self, lc_eq, implies_true, vin, Bool.true_eq_false, Bool.false_eq_true, false_and, and_false, or_false, false_or, or_true, true_or]
    rw [fI_none hno] at hQ
    exact hQ
theorem s_isHeld (O : okT ti) (OM : okM ti tl) (H : eqM ti tl vi vl mi ml) {g : Nat} (hg : g < nR ti) : cS ro (d + 3) 174 [.ref 40, .int (nI g)] mi ml (some (.int (pI (hoP ti tl g)))) mi ml := by
  have hC := O.C2
  have hle := pcn_le (fun c => pB (csP ti c)) (nC ti)
  refine ab_sem_q rfl rfl (fun Q hQ => vc_X12_isHeld_0 _ mi ml ⟨_, _, _, s_casesSeen O OM H, ?_⟩)
  rw [xg_0 (by omega), pcn_pos]
  refine ⟨fun c => ⟨_, _, _, s_caseAgainst O OM H hg, ?_⟩, fun c => ?_⟩
  · rw [fI_neg (by omega), fI_m1 (by omega)]
    obtain ⟨i, h1, h2⟩ := c
    rw [pB_iff] at h2
    refine ⟨fun c2 => ?_, fun c2 => ?_⟩
    · rw [pI_1 ⟨⟨i, h1, h2⟩, c2⟩] at hQ; exact hQ
    · rw [pI_0 (fun h => c2 h.2)] at hQ; exact hQ
  · rw [pI_0] at hQ
    · exact hQ
    · rintro ⟨⟨i, h1, h2⟩, _⟩
      exact c ⟨i, h1, pB_iff.2 h2⟩
theorem s_groundsOf (O : okT ti) (OM : okM ti tl) (M : mP ti tl vi vl mi ml) (x : Int32) : cS ro (d + 4) 206 [.ref 40, .int x] mi ml (some (.int (nI (groN ti tl x)))) mi ml := by
  have hR := O.R2
  have hW := O.W2
  have H := M.1
  refine ab_sem_q rfl rfl (fun Q hQ => vc_X12_groundsOf_0 _ mi ml ?_)
  unfold groN at hQ
  refine up0 (n := nR ti) (F := fun i => W_X12_groundsOf_4 (cs ro (d + 3)) ro Q x (nI (pcn (fun k => pB (ofG ti tl (ti 21 k).toNatClampNeg = x ∧ hoP ti tl k)) i)) (nI i) mi ml) (fun i hi ih => ?_) ?_
  · refine vc_X12_groundsOf_4 _ _ _ mi ml ?_
    obtain ⟨w, hw, ew⟩ := O.g i hi
    have eg := (OM.g i hi).1
    simp (disch := omega) only [H.s30, OM.s30, H.e61, eg, O.R, hi, ew, M.2.2.1 w hw, Int32.add_zero, nI_ltI, nI_eq, nI_clamp, nI_1, xl_0, xg_0, xe_0, xe_m1, nI_0, xl_1, xl_2, xl_3, xl_4, xl_5, xl_6, xl_7, xl_8, xl_9, xl_10, xl_12, xl_20, xl_30, xl_32, xl_40, xl_41, xl_42, xl_48, xl_57, xl_59, xl_64, xl_97, xl_100, xl_122, xl_126, xl_128, xl_1000, xl_9999, xg_1, xg_2, xg_3, xg_4, xg_5, xg_6, xg_7, xg_8, xg_9, xg_10, xg_12, xg_20, xg_30, xg_32, xg_40, xg_41, xg_42, xg_48, xg_57, xg_59, xg_64, xg_97, xg_100, xg_122, xg_126, xg_128, xg_1000, xg_9999, xe_1, xe_2, xe_3, xe_4, xe_5, xe_6, xe_7, xe_8, xe_9, xe_10, xe_12, xe_20, xe_30, xe_32, xe_40, xe_41, xe_42, xe_48, xe_57, xe_59, xe_64, xe_97, xe_100, xe_122, xe_126, xe_128, xe_1000, xe_9999, true_implies, false_implies, not_true_eq_false, not_false_eq_true, and_true, true_and, forall_const, imp_self, lc_eq, implies_true, vin, Bool.true_eq_false, Bool.false_eq_true, false_and, and_false, or_false, false_or, or_true, true_or]
    refine ⟨fun c => ⟨_, _, _, s_isHeld O OM H hi, ?_⟩, fun c => ?_⟩
    · rw [pI_e0]
      refine ⟨fun c2 => ?_, fun c2 => ?_⟩
      · rw [pcn_s0 (f := fun k => pB (ofG ti tl (ti 21 k).toNatClampNeg = x ∧ hoP ti tl k)) (n := i) (pB_f.2 (fun h => c2 h.2))]; exact ih
      · rw [pcn_s1 (f := fun k => pB (ofG ti tl (ti 21 k).toNatClampNeg = x ∧ hoP ti tl k)) (n := i) (pB_iff.2 ⟨by rw [ew, nI_clamp (by omega)]; exact c, Classical.not_not.1 c2⟩)]; exact ih
    · rw [pcn_s0 (f := fun k => pB (ofG ti tl (ti 21 k).toNatClampNeg = x ∧ hoP ti tl k)) (n := i) (pB_f.2 (fun h => c (by have := h.1; rw [ew, nI_clamp (by omega)] at this; exact this)))]; exact ih
  · refine vc_X12_groundsOf_4 _ _ _ mi ml ?_
    simp (disch := omega) only [H.s30, OM.s30, O.R, Nat.lt_irrefl, nI_ltI, nI_eq, nI_clamp, nI_1, xl_0, xg_0, xe_0, xe_m1, nI_0, xl_1, xl_2, xl_3, xl_4, xl_5, xl_6, xl_7, xl_8, xl_9, xl_10, xl_12, xl_20, xl_30, xl_32, xl_40, xl_41, xl_42, xl_48, xl_57, xl_59, xl_64, xl_97, xl_100, xl_122, xl_126, xl_128, xl_1000, xl_9999, xg_1, xg_2, xg_3, xg_4, xg_5, xg_6, xg_7, xg_8, xg_9, xg_10, xg_12, xg_20, xg_30, xg_32, xg_40, xg_41, xg_42, xg_48, xg_57, xg_59, xg_64, xg_97, xg_100, xg_122, xg_126, xg_128, xg_1000, xg_9999, xe_1, xe_2, xe_3, xe_4, xe_5, xe_6, xe_7, xe_8, xe_9, xe_10, xe_12, xe_20, xe_30, xe_32, xe_40, xe_41, xe_42, xe_48, xe_57, xe_59, xe_64, xe_97, xe_100, xe_122, xe_126, xe_128, xe_1000, xe_9999, true_implies, false_implies, not_true_eq_false, not_false_eq_true, and_true, true_and, forall_const, imp_self, lc_eq, implies_true, vin, Bool.true_eq_false, Bool.false_eq_true, false_and, and_false, or_false, false_or, or_true, true_or]
    exact hQ
theorem or3_0 (x : Int32) : x ||| 0 = x := by
  apply b3_ext
  intro i _
  rw [b3_or, b3_0, Bool.or_false]
theorem s_housesOf (O : okT ti) (OM : okM ti tl) (M : mP ti tl vi vl mi ml) (x : Int32) : cS ro (d + 2) 202 [.ref 40, .int x] mi ml (some (.int (nI (houN ti tl x)))) mi ml := by
  have hW := O.W2
  have H := M.1
  refine ab_sem_q rfl rfl (fun Q hQ => vc_X12_housesOf_0 _ mi ml ?_)
  refine up0 (n := nW ti) (F := fun i => ∀ r, (∀ h, b3 r h = pB (∃ w, w < i ∧ ofG ti tl w = x ∧ ti 24 (ti 15 w).toNatClampNeg = nI h ∧ h < 7)) → W_X12_housesOf_4 (cs ro (d + 1)) ro Q x r (nI i) mi ml) (fun i hi ih r hr => ?_) (fun r hr => ?_) 0 (fun h => ?_)
  · refine vc_X12_housesOf_4 _ _ _ mi ml ?_
    obtain ⟨_, _, ⟨p, hp, ep⟩, _⟩ := O.w i hi
    obtain ⟨h0, hh0, eh⟩ := O.h p hp
    have e57 := (OM.w i hi).2.2.1
    have e60 := OM.h p hp
    simp (disch := omega) only [H.s20, OM.s20, H.e57, H.e60, e57, e60, O.W, hi, ep, eh, M.2.2.1 i hi, or3_0, nI_ltI, nI_eq, nI_clamp, nI_1, xl_0, xg_0, xe_0, xe_m1, nI_0, xl_1, xl_2, xl_3, xl_4, xl_5, xl_6, xl_7, xl_8, xl_9, xl_10, xl_12, xl_20, xl_30, xl_32, xl_40, xl_41, xl_42, xl_48, xl_57, xl_59, xl_64, xl_97, xl_100, xl_122, xl_126, xl_128, xl_1000, xl_9999, xg_1, xg_2, xg_3, xg_4, xg_5, xg_6, xg_7, xg_8, xg_9, xg_10, xg_12, xg_20, xg_30, xg_32, xg_40, xg_41, xg_42, xg_48, xg_57, xg_59, xg_64, xg_97, xg_100, xg_122, xg_126, xg_128, xg_1000, xg_9999, xe_1, xe_2, xe_3, xe_4, xe_5, xe_6, xe_7, xe_8, xe_9, xe_10, xe_12, xe_20, xe_30, xe_32, xe_40, xe_41, xe_42, xe_48, xe_57, xe_59, xe_64, xe_97, xe_100, xe_122, xe_126, xe_128, xe_1000, xe_9999, true_implies, false_implies, not_true_eq_false, not_false_eq_true, and_true, true_and, forall_const, imp_self, lc_eq, implies_true, vin, Bool.true_eq_false, Bool.false_eq_true, false_and, and_false, or_false, false_or, or_true, true_or]
    refine ⟨fun c => ih _ (fun h => ?_), fun c => ih _ (fun h => ?_)⟩
    · rw [b3_orbit _ (by omega), hr]
      apply pB_eq
      rw [Bool.or_eq_true, pB_iff, decide_eq_true_iff]
      constructor
      · rintro (⟨w, h1, h2⟩ | q)
        · exact ⟨w, by omega, h2⟩
        · exact ⟨i, by omega, c, by rw [ep, nI_clamp (by omega), eh, q], by omega⟩
      · rintro ⟨w, h1, h2, h3, h4⟩
        rcases Nat.lt_or_eq_of_le (Nat.le_of_lt_succ h1) with q | q
        · exact Or.inl ⟨w, q, h2, h3, h4⟩
        · rw [q, ep, nI_clamp (by omega), eh, nI_eq (by omega) (by omega)] at h3
          exact Or.inr h3.symm
    · rw [hr]
      apply pB_congr
      constructor
      · rintro ⟨w, h1, h2⟩; exact ⟨w, by omega, h2⟩
      · rintro ⟨w, h1, h2⟩
        rcases Nat.lt_or_eq_of_le (Nat.le_of_lt_succ h1) with q | q
        · exact ⟨w, q, h2⟩
        · rw [q] at h2; exact absurd h2.1 c
  · refine vc_X12_housesOf_4 _ _ _ mi ml ?_
    simp (disch := omega) only [H.s20, OM.s20, O.W, Nat.lt_irrefl, nI_ltI, nI_eq, nI_clamp, nI_1, xl_0, xg_0, xe_0, xe_m1, nI_0, xl_1, xl_2, xl_3, xl_4, xl_5, xl_6, xl_7, xl_8, xl_9, xl_10, xl_12, xl_20, xl_30, xl_32, xl_40, xl_41, xl_42, xl_48, xl_57, xl_59, xl_64, xl_97, xl_100, xl_122, xl_126, xl_128, xl_1000, xl_9999, xg_1, xg_2, xg_3, xg_4, xg_5, xg_6, xg_7, xg_8, xg_9, xg_10, xg_12, xg_20, xg_30, xg_32, xg_40, xg_41, xg_42, xg_48, xg_57, xg_59, xg_64, xg_97, xg_100, xg_122, xg_126, xg_128, xg_1000, xg_9999, xe_1, xe_2, xe_3, xe_4, xe_5, xe_6, xe_7, xe_8, xe_9, xe_10, xe_12, xe_20, xe_30, xe_32, xe_40, xe_41, xe_42, xe_48, xe_57, xe_59, xe_64, xe_97, xe_100, xe_122, xe_126, xe_128, xe_1000, xe_9999, true_implies, false_implies, not_true_eq_false, not_false_eq_true, and_true, true_and, forall_const, imp_self, lc_eq, implies_true, vin, Bool.true_eq_false, Bool.false_eq_true, false_and, and_false, or_false, false_or, or_true, true_or]
    refine ⟨_, _, _, s_bits r, ?_⟩
    have e : pcn (b3 r) 30 = houN ti tl x := by
      unfold houN
      rw [pcn_cut (m := 7) (by decide) (fun i h1 h2 => by rw [hr, pB_f]; rintro ⟨w, _, _, _, h⟩; omega)]
      apply pcn_congr
      intro i hi
      rw [hr]
      apply pB_congr
      constructor
      · rintro ⟨w, h1, h2, h3, _⟩; exact ⟨w, h1, h2, h3⟩
      · rintro ⟨w, h1, h2, h3⟩; exact ⟨w, h1, h2, h3, hi⟩
    rw [e]
    exact hQ
  · rw [b3_0, eq_comm, pB_f]
    rintro ⟨w, h1, _⟩
    exact absurd h1 (Nat.not_lt_zero _)
theorem s_handsOf (O : okT ti) (OM : okM ti tl) (M : mP ti tl vi vl mi ml) (x : Int32) : cS ro (d + 1) 201 [.ref 40, .int x] mi ml (some (.int (nI (hanN ti tl x)))) mi ml := by
  have hW := O.W2
  have H := M.1
  refine ab_sem_q rfl rfl (fun Q hQ => vc_X12_handsOf_0 _ mi ml ?_)
  unfold hanN at hQ
  refine up0 (n := 100) (F := fun p => W_X12_handsOf_4 (cs ro d) ro Q x (nI (pcn (fun p => pB (∃ w, w < nW ti ∧ ofG ti tl w = x ∧ ti 15 w = nI p)) p)) (nI p) mi ml) (fun p hp ih => ?_) ?_
  · refine vc_X12_handsOf_4 _ _ _ mi ml ?_
    simp (disch := omega) only [hp, nI_ltI, nI_eq, nI_clamp, nI_1, xl_0, xg_0, xe_0, xe_m1, nI_0, xl_1, xl_2, xl_3, xl_4, xl_5, xl_6, xl_7, xl_8, xl_9, xl_10, xl_12, xl_20, xl_30, xl_32, xl_40, xl_41, xl_42, xl_48, xl_57, xl_59, xl_64, xl_97, xl_100, xl_122, xl_126, xl_128, xl_1000, xl_9999, xg_1, xg_2, xg_3, xg_4, xg_5, xg_6, xg_7, xg_8, xg_9, xg_10, xg_12, xg_20, xg_30, xg_32, xg_40, xg_41, xg_42, xg_48, xg_57, xg_59, xg_64, xg_97, xg_100, xg_122, xg_126, xg_128, xg_1000, xg_9999, xe_1, xe_2, xe_3, xe_4, xe_5, xe_6, xe_7, xe_8, xe_9, xe_10, xe_12, xe_20, xe_30, xe_32, xe_40, xe_41, xe_42, xe_48, xe_57, xe_59, xe_64, xe_97, xe_100, xe_122, xe_126, xe_128, xe_1000, xe_9999, true_implies, false_implies, not_true_eq_false, not_false_eq_true, and_true, true_and, forall_const, imp_self, lc_eq, implies_true, vin, Bool.true_eq_false, Bool.false_eq_true, false_and, and_false, or_false, false_or, or_true, true_or]
    refine up0 (n := nW ti) (F := fun i => ∀ o : Int32, o = pI (∃ w, w < i ∧ ofG ti tl w = x ∧ ti 15 w = nI p) → W_X12_handsOf_16 (cs ro d) ro Q x (nI (pcn (fun p => pB (∃ w, w < nW ti ∧ ofG ti tl w = x ∧ ti 15 w = nI p)) p)) (nI p) o (nI i) mi ml) (fun i hi ih2 o ho => ?_) (fun o ho => ?_) 0 (pI_0 (fun ⟨w, hw, _⟩ => absurd hw (Nat.not_lt_zero w))).symm
    · refine vc_X12_handsOf_16 _ _ _ _ _ mi ml ?_
      have e57 := (OM.w i hi).2.2.1
      have old : (∃ w, w < i ∧ ofG ti tl w = x ∧ ti 15 w = nI p) → (1 : Int32) = pI (∃ w, w < i + 1 ∧ ofG ti tl w = x ∧ ti 15 w = nI p) := fun ⟨w, h1, h2⟩ => (pI_1 ⟨w, by omega, h2⟩).symm
      have no : ¬ (∃ w, w < i ∧ ofG ti tl w = x ∧ ti 15 w = nI p) → ¬ (ofG ti tl i = x ∧ ti 15 i = nI p) → (0 : Int32) = pI (∃ w, w < i + 1 ∧ ofG ti tl w = x ∧ ti 15 w = nI p) := fun h1 h2 => (pI_0 (fun ⟨w, q1, q2⟩ => by
        rcases Nat.lt_or_eq_of_le (Nat.le_of_lt_succ q1) with q | q
        · exact h1 ⟨w, q, q2⟩
        · rw [q] at q2; exact h2 q2)).symm
      simp (disch := omega) only [H.s20, OM.s20, H.e57, e57, O.W, hi, M.2.2.1 i hi, nI_ltI, nI_eq, nI_clamp, nI_1, xl_0, xg_0, xe_0, xe_m1, nI_0, xl_1, xl_2, xl_3, xl_4, xl_5, xl_6, xl_7, xl_8, xl_9, xl_10, xl_12, xl_20, xl_30, xl_32, xl_40, xl_41, xl_42, xl_48, xl_57, xl_59, xl_64, xl_97, xl_100, xl_122, xl_126, xl_128, xl_1000, xl_9999, xg_1, xg_2, xg_3, xg_4, xg_5, xg_6, xg_7, xg_8, xg_9, xg_10, xg_12, xg_20, xg_30, xg_32, xg_40, xg_41, xg_42, xg_48, xg_57, xg_59, xg_64, xg_97, xg_100, xg_122, xg_126, xg_128, xg_1000, xg_9999, xe_1, xe_2, xe_3, xe_4, xe_5, xe_6, xe_7, xe_8, xe_9, xe_10, xe_12, xe_20, xe_30, xe_32, xe_40, xe_41, xe_42, xe_48, xe_57, xe_59, xe_64, xe_97, xe_100, xe_122, xe_126, xe_128, xe_1000, xe_9999, true_implies, false_implies, not_true_eq_false, not_false_eq_true, and_true, true_and, forall_const, imp_self, lc_eq, implies_true, vin, Bool.true_eq_false, Bool.false_eq_true, false_and, and_false, or_false, false_or, or_true, true_or]
      rw [ho, pI_e0]
      refine ⟨fun c => ⟨fun c2 => ⟨fun c3 => ih2 _ (pI_1 ⟨i, by omega, c2, c3⟩).symm, fun c3 => ih2 _ (no c (fun q => c3 q.2))⟩, fun c2 => ih2 _ (no c (fun q => c2 q.1))⟩, fun c => ih2 _ (old (Classical.not_not.1 c))⟩
    · refine vc_X12_handsOf_16 _ _ _ _ _ mi ml ?_
      simp (disch := omega) only [H.s20, OM.s20, O.W, Nat.lt_irrefl, Int32.add_zero, nI_ltI, nI_eq, nI_clamp, nI_1, xl_0, xg_0, xe_0, xe_m1, nI_0, xl_1, xl_2, xl_3, xl_4, xl_5, xl_6, xl_7, xl_8, xl_9, xl_10, xl_12, xl_20, xl_30, xl_32, xl_40, xl_41, xl_42, xl_48, xl_57, xl_59, xl_64, xl_97, xl_100, xl_122, xl_126, xl_128, xl_1000, xl_9999, xg_1, xg_2, xg_3, xg_4, xg_5, xg_6, xg_7, xg_8, xg_9, xg_10, xg_12, xg_20, xg_30, xg_32, xg_40, xg_41, xg_42, xg_48, xg_57, xg_59, xg_64, xg_97, xg_100, xg_122, xg_126, xg_128, xg_1000, xg_9999, xe_1, xe_2, xe_3, xe_4, xe_5, xe_6, xe_7, xe_8, xe_9, xe_10, xe_12, xe_20, xe_30, xe_32, xe_40, xe_41, xe_42, xe_48, xe_57, xe_59, xe_64, xe_97, xe_100, xe_122, xe_126, xe_128, xe_1000, xe_9999, true_implies, false_implies, not_true_eq_false, not_false_eq_true, and_true, true_and, forall_const, imp_self, lc_eq, implies_true, vin, Bool.true_eq_false, Bool.false_eq_true, false_and, and_false, or_false, false_or, or_true, true_or]
      rw [ho, pI_e0]
      refine ⟨fun c => ?_, fun c => ?_⟩
      · rw [pcn_s0 (f := fun p => pB (∃ w, w < nW ti ∧ ofG ti tl w = x ∧ ti 15 w = nI p)) (n := p) (pB_f.2 c)]; exact ih
      · rw [pcn_s1 (f := fun p => pB (∃ w, w < nW ti ∧ ofG ti tl w = x ∧ ti 15 w = nI p)) (n := p) (pB_iff.2 (Classical.not_not.1 c))]; exact ih
  · refine vc_X12_handsOf_4 _ _ _ mi ml ?_
    simp (disch := omega) only [Nat.lt_irrefl, nI_ltI, nI_eq, nI_clamp, nI_1, xl_0, xg_0, xe_0, xe_m1, nI_0, xl_1, xl_2, xl_3, xl_4, xl_5, xl_6, xl_7, xl_8, xl_9, xl_10, xl_12, xl_20, xl_30, xl_32, xl_40, xl_41, xl_42, xl_48, xl_57, xl_59, xl_64, xl_97, xl_100, xl_122, xl_126, xl_128, xl_1000, xl_9999, xg_1, xg_2, xg_3, xg_4, xg_5, xg_6, xg_7, xg_8, xg_9, xg_10, xg_12, xg_20, xg_30, xg_32, xg_40, xg_41, xg_42, xg_48, xg_57, xg_59, xg_64, xg_97, xg_100, xg_122, xg_126, xg_128, xg_1000, xg_9999, xe_1, xe_2, xe_3, xe_4, xe_5, xe_6, xe_7, xe_8, xe_9, xe_10, xe_12, xe_20, xe_30, xe_32, xe_40, xe_41, xe_42, xe_48, xe_57, xe_59, xe_64, xe_97, xe_100, xe_122, xe_126, xe_128, xe_1000, xe_9999, true_implies, false_implies, not_true_eq_false, not_false_eq_true, and_true, true_and, forall_const, imp_self, lc_eq, implies_true, vin, Bool.true_eq_false, Bool.false_eq_true, false_and, and_false, or_false, false_or, or_true, true_or]
    exact hQ
theorem s_reachOf (O : okT ti) (OM : okM ti tl) (M : mP ti tl vi vl mi ml) {g : Nat} (hg : g < 30) : ∃ mi' ml', cS ro (d + 4) 203 [.ref 40, .int (nI g)] mi ml (some (.int (nI (reaN ti tl g)))) mi' ml' ∧ fr bfI bfL mi ml mi' ml' := by
  obtain ⟨mi1, ml1, s1, F1, _, a1, b1, _⟩ := s_buildsLaw (ro := ro) (d := d) O OM M.1
  have e1 : b3 ((1 : Int32) <<< (nI g &&& 31)) = fun i => decide (i = g) := funext (fun i => b3_bit (by omega) i)
  obtain ⟨mi2, mi3, ml3, s2, s3, F3, L⟩ := s_tg_builds (ro := ro) (d := d + 1) O OM (M.fr F1) ((1 : Int32) <<< (nI g &&& 31)) (by rw [e1]; exact nt_one g)
  rw [e1] at L
  refine ab_ex_q rfl rfl (fun Q hQ => vc_X12_reachOf_0 _ mi ml ⟨_, _, s1, _, _, s2, _, _, s3, ?_⟩)
  rw [a1, b1]
  have ew : reaN ti tl g = pcn (wB (oA tl (fun p => decide (p < nL ti)) ^^^ oA tl (lawS ti tl (fun i => decide (i = g)))) (oB tl (fun p => decide (p < nL ti)) ^^^ oB tl (lawS ti tl (fun i => decide (i = g))))) 128 := (pcn_wB _ _).symm
  rw [ew] at hQ
  refine up0 (n := 128) (F := fun i => W_X12_reachOf_32 (cs ro (d + 3)) ro Q (nI g) (oA tl (fun p => decide (p < nL ti))) (oB tl (fun p => decide (p < nL ti))) (nI (pcn (wB (oA tl (fun p => decide (p < nL ti)) ^^^ oA tl (lawS ti tl (fun i => decide (i = g)))) (oB tl (fun p => decide (p < nL ti)) ^^^ oB tl (lawS ti tl (fun i => decide (i = g))))) i)) (nI i) mi3 ml3) (fun i hi ih => ?_) ?_
  · refine vc_X12_reachOf_32 _ _ _ _ _ mi3 ml3 ?_
    simp (disch := omega) only [hi, Int32.add_zero, L.2.1, L.2.2.1, nI_ltI, nI_eq, nI_clamp, nI_1, xl_0, xg_0, xe_0, xe_m1, nI_0, xl_1, xl_2, xl_3, xl_4, xl_5, xl_6, xl_7, xl_8, xl_9, xl_10, xl_12, xl_20, xl_30, xl_32, xl_40, xl_41, xl_42, xl_48, xl_57, xl_59, xl_64, xl_97, xl_100, xl_122, xl_126, xl_128, xl_1000, xl_9999, xg_1, xg_2, xg_3, xg_4, xg_5, xg_6, xg_7, xg_8, xg_9, xg_10, xg_12, xg_20, xg_30, xg_32, xg_40, xg_41, xg_42, xg_48, xg_57, xg_59, xg_64, xg_97, xg_100, xg_122, xg_126, xg_128, xg_1000, xg_9999, xe_1, xe_2, xe_3, xe_4, xe_5, xe_6, xe_7, xe_8, xe_9, xe_10, xe_12, xe_20, xe_30, xe_32, xe_40, xe_41, xe_42, xe_48, xe_57, xe_59, xe_64, xe_97, xe_100, xe_122, xe_126, xe_128, xe_1000, xe_9999, true_implies, false_implies, not_true_eq_false, not_false_eq_true, and_true, true_and, forall_const, imp_self, lc_eq, implies_true, vin, Bool.true_eq_false, Bool.false_eq_true, false_and, and_false, or_false, false_or, or_true, true_or]
    refine ⟨_, _, _, s_isIn _ _ hi, ?_⟩
    rw [bI_0]
    refine ⟨fun c => ?_, fun c => ?_⟩
    · rw [pcn_s0 c]; exact ih
    · rw [pcn_s1 (f := wB (oA tl (fun p => decide (p < nL ti)) ^^^ oA tl (lawS ti tl (fun i => decide (i = g)))) (oB tl (fun p => decide (p < nL ti)) ^^^ oB tl (lawS ti tl (fun i => decide (i = g))))) (by simpa using c)]; exact ih
  · refine vc_X12_reachOf_32 _ _ _ _ _ mi3 ml3 ?_
    simp (disch := omega) only [Nat.lt_irrefl, nI_ltI, nI_eq, nI_clamp, nI_1, xl_0, xg_0, xe_0, xe_m1, nI_0, xl_1, xl_2, xl_3, xl_4, xl_5, xl_6, xl_7, xl_8, xl_9, xl_10, xl_12, xl_20, xl_30, xl_32, xl_40, xl_41, xl_42, xl_48, xl_57, xl_59, xl_64, xl_97, xl_100, xl_122, xl_126, xl_128, xl_1000, xl_9999, xg_1, xg_2, xg_3, xg_4, xg_5, xg_6, xg_7, xg_8, xg_9, xg_10, xg_12, xg_20, xg_30, xg_32, xg_40, xg_41, xg_42, xg_48, xg_57, xg_59, xg_64, xg_97, xg_100, xg_122, xg_126, xg_128, xg_1000, xg_9999, xe_1, xe_2, xe_3, xe_4, xe_5, xe_6, xe_7, xe_8, xe_9, xe_10, xe_12, xe_20, xe_30, xe_32, xe_40, xe_41, xe_42, xe_48, xe_57, xe_59, xe_64, xe_97, xe_100, xe_122, xe_126, xe_128, xe_1000, xe_9999, true_implies, false_implies, not_true_eq_false, not_false_eq_true, and_true, true_and, forall_const, imp_self, lc_eq, implies_true, vin, Bool.true_eq_false, Bool.false_eq_true, false_and, and_false, or_false, false_or, or_true, true_or]
    exact hQ _ _ (F1.tr F3)
theorem s_wishesOf (O : okT ti) (OM : okM ti tl) (M : mP ti tl vi vl mi ml) (x : Int32) : cS ro (d + 1) 204 [.ref 40, .int x] mi ml (some (.int (nI (pcn (fun w => pB (ofG ti tl w = x)) (nW ti))))) mi ml := by
  have hW := O.W2
  have H := M.1
  refine ab_sem_q rfl rfl (fun Q hQ => vc_X12_wishesOf_0 _ mi ml ?_)
  refine up0 (n := nW ti) (F := fun i => W_X12_wishesOf_4 (cs ro d) ro Q x (nI (pcn (fun w => pB (ofG ti tl w = x)) i)) (nI i) mi ml) (fun i hi ih => ?_) ?_
  · refine vc_X12_wishesOf_4 _ _ _ mi ml ?_
    simp (disch := omega) only [H.s20, OM.s20, O.W, hi, M.2.2.1 i hi, Int32.add_zero, nI_ltI, nI_eq, nI_clamp, nI_1, xl_0, xg_0, xe_0, xe_m1, nI_0, xl_1, xl_2, xl_3, xl_4, xl_5, xl_6, xl_7, xl_8, xl_9, xl_10, xl_12, xl_20, xl_30, xl_32, xl_40, xl_41, xl_42, xl_48, xl_57, xl_59, xl_64, xl_97, xl_100, xl_122, xl_126, xl_128, xl_1000, xl_9999, xg_1, xg_2, xg_3, xg_4, xg_5, xg_6, xg_7, xg_8, xg_9, xg_10, xg_12, xg_20, xg_30, xg_32, xg_40, xg_41, xg_42, xg_48, xg_57, xg_59, xg_64, xg_97, xg_100, xg_122, xg_126, xg_128, xg_1000, xg_9999, xe_1, xe_2, xe_3, xe_4, xe_5, xe_6, xe_7, xe_8, xe_9, xe_10, xe_12, xe_20, xe_30, xe_32, xe_40, xe_41, xe_42, xe_48, xe_57, xe_59, xe_64, xe_97, xe_100, xe_122, xe_126, xe_128, xe_1000, xe_9999, true_implies, false_implies, not_true_eq_false, not_false_eq_true, and_true, true_and, forall_const, imp_self, lc_eq, implies_true, vin, Bool.true_eq_false, Bool.false_eq_true, false_and, and_false, or_false, false_or, or_true, true_or]
    refine ⟨fun c => ?_, fun c => ?_⟩
    · rw [pcn_s1 (f := fun w => pB (ofG ti tl w = x)) (n := i) (pB_iff.2 c)]; exact ih
    · rw [pcn_s0 (f := fun w => pB (ofG ti tl w = x)) (n := i) (pB_f.2 c)]; exact ih
  · refine vc_X12_wishesOf_4 _ _ _ mi ml ?_
    simp (disch := omega) only [H.s20, OM.s20, O.W, Nat.lt_irrefl, nI_ltI, nI_eq, nI_clamp, nI_1, xl_0, xg_0, xe_0, xe_m1, nI_0, xl_1, xl_2, xl_3, xl_4, xl_5, xl_6, xl_7, xl_8, xl_9, xl_10, xl_12, xl_20, xl_30, xl_32, xl_40, xl_41, xl_42, xl_48, xl_57, xl_59, xl_64, xl_97, xl_100, xl_122, xl_126, xl_128, xl_1000, xl_9999, xg_1, xg_2, xg_3, xg_4, xg_5, xg_6, xg_7, xg_8, xg_9, xg_10, xg_12, xg_20, xg_30, xg_32, xg_40, xg_41, xg_42, xg_48, xg_57, xg_59, xg_64, xg_97, xg_100, xg_122, xg_126, xg_128, xg_1000, xg_9999, xe_1, xe_2, xe_3, xe_4, xe_5, xe_6, xe_7, xe_8, xe_9, xe_10, xe_12, xe_20, xe_30, xe_32, xe_40, xe_41, xe_42, xe_48, xe_57, xe_59, xe_64, xe_97, xe_100, xe_122, xe_126, xe_128, xe_1000, xe_9999, true_implies, false_implies, not_true_eq_false, not_false_eq_true, and_true, true_and, forall_const, imp_self, lc_eq, implies_true, vin, Bool.true_eq_false, Bool.false_eq_true, false_and, and_false, or_false, false_or, or_true, true_or]
    exact hQ
/-- the best so far, at the reference -/
def mdOK (f : Nat → Nat) (n : Nat) (b : Option Nat) (mi : cM1) : Prop := match b with
  | none => mi 40 58 = -1
  | some t => mi 40 58 = nI t ∧ mi 40 59 = nI (ws f t n)
set_option maxHeartbeats 2000000 in
theorem s_findDraft (O : okT ti) (OM : okM ti tl) (H : eqM ti tl vi vl mi ml) {wt : Nat} (hw : wt < 4) : ∃ mi' ml', cS ro (d + 6) 221 [.ref 40, .int (nI wt)] mi ml none mi' ml' ∧ mP ti tl vi vl mi' ml' ∧ mdOK (wei ti tl wt) (nD ti tl) (drf ti tl wt) mi' := by
  have hW := O.W2
  have hG := nG_le ti tl
  have hD := nD_le ti tl
  have h2 := p12 hD.1
  obtain ⟨mi1, ml1, s1, _, M1⟩ := s_findGroups (ro := ro) (d := d + 1) O OM H
  refine ab_ex_q rfl rfl (fun Q hQ => vc_X12_findDraft_0 _ mi ml ⟨_, _, s1, ?_⟩)
  have hf := wei_le ti tl O wt
  -- the sets
  have sets : ∀ mi ml, mP ti tl vi vl mi ml → (∀ g, g < nD ti tl → mi 77 g = nI (wei ti tl wt g)) → W_X12_findDraft_97 (cs ro (d + 5)) ro Q (nI wt) (nI (nD ti tl)) 0 (ab_ui (ab_ui mi 40 58 (-1)) 40 59 0) ml := by
    intro mi ml M Z
    refine up0 (n := 2 ^ nD ti tl) (F := fun s => ∀ mi ml, mP ti tl vi vl mi ml → (∀ g, g < nD ti tl → mi 77 g = nI (wei ti tl wt g)) → mdOK (wei ti tl wt) (nD ti tl) (dbest (wei ti tl wt) (nD ti tl) (goN ti tl) s) mi → W_X12_findDraft_97 (cs ro (d + 5)) ro Q (nI wt) (nI (nD ti tl)) (nI s) mi ml) (fun s hs ih mi ml M Z D => ?_) (fun mi ml M Z D => ?_) _ ml ((M.ui (-1) rfl rfl (by decide)).ui 0 rfl rfl (by decide)) (fun g hg => by simp [ui_app]; exact Z g hg) (by show _ = _; simp [ui_app])
    · refine vc_X12_findDraft_97 _ _ _ mi ml ?_
      rw [bit_n (by omega)]
      simp (disch := omega) only [hs, nI_ltI, nI_eq, nI_clamp, nI_1, xl_0, xg_0, xe_0, xe_m1, nI_0, xl_1, xl_2, xl_3, xl_4, xl_5, xl_6, xl_7, xl_8, xl_9, xl_10, xl_12, xl_20, xl_30, xl_32, xl_40, xl_41, xl_42, xl_48, xl_57, xl_59, xl_64, xl_97, xl_100, xl_122, xl_126, xl_128, xl_1000, xl_9999, xg_1, xg_2, xg_3, xg_4, xg_5, xg_6, xg_7, xg_8, xg_9, xg_10, xg_12, xg_20, xg_30, xg_32, xg_40, xg_41, xg_42, xg_48, xg_57, xg_59, xg_64, xg_97, xg_100, xg_122, xg_126, xg_128, xg_1000, xg_9999, xe_1, xe_2, xe_3, xe_4, xe_5, xe_6, xe_7, xe_8, xe_9, xe_10, xe_12, xe_20, xe_30, xe_32, xe_40, xe_41, xe_42, xe_48, xe_57, xe_59, xe_64, xe_97, xe_100, xe_122, xe_126, xe_128, xe_1000, xe_9999, true_implies, false_implies, not_true_eq_false, not_false_eq_true, and_true, true_and, forall_const, imp_self, lc_eq, implies_true, vin, Bool.true_eq_false, Bool.false_eq_true, false_and, and_false, or_false, false_or, or_true, true_or]
      refine up0 (n := nD ti tl) (F := fun g => W_X12_findDraft_110 (cs ro (d + 5)) ro Q (nI wt) (nI (nD ti tl)) (nI s) (nI (ws (wei ti tl wt) s g)) (nI g) mi ml) (fun g hg ih2 => ?_) ?_
      · refine vc_X12_findDraft_110 _ _ _ _ _ mi ml ?_
        have est : ws (wei ti tl wt) s (g + 1) = ws (wei ti tl wt) s g + (if s.testBit g = true then wei ti tl wt g else 0) := rfl
        simp (disch := omega) only [hg, b3_a1, Z g hg, nI_add, Int32.add_zero, nI_ltI, nI_eq, nI_clamp, nI_1, xl_0, xg_0, xe_0, xe_m1, nI_0, xl_1, xl_2, xl_3, xl_4, xl_5, xl_6, xl_7, xl_8, xl_9, xl_10, xl_12, xl_20, xl_30, xl_32, xl_40, xl_41, xl_42, xl_48, xl_57, xl_59, xl_64, xl_97, xl_100, xl_122, xl_126, xl_128, xl_1000, xl_9999, xg_1, xg_2, xg_3, xg_4, xg_5, xg_6, xg_7, xg_8, xg_9, xg_10, xg_12, xg_20, xg_30, xg_32, xg_40, xg_41, xg_42, xg_48, xg_57, xg_59, xg_64, xg_97, xg_100, xg_122, xg_126, xg_128, xg_1000, xg_9999, xe_1, xe_2, xe_3, xe_4, xe_5, xe_6, xe_7, xe_8, xe_9, xe_10, xe_12, xe_20, xe_30, xe_32, xe_40, xe_41, xe_42, xe_48, xe_57, xe_59, xe_64, xe_97, xe_100, xe_122, xe_126, xe_128, xe_1000, xe_9999, true_implies, false_implies, not_true_eq_false, not_false_eq_true, and_true, true_and, forall_const, imp_self, lc_eq, implies_true, vin, Bool.true_eq_false, Bool.false_eq_true, false_and, and_false, or_false, false_or, or_true, true_or]
        rw [b3_nI (by omega)]
        refine ⟨fun c => ?_, fun c => ?_⟩
        · rw [est, if_pos c] at ih2; exact ih2
        · rw [est, if_neg c, Nat.add_zero] at ih2; exact ih2
      · refine vc_X12_findDraft_110 _ _ _ _ _ mi ml ?_
        have hst : dbest (wei ti tl wt) (nD ti tl) (goN ti tl) (s + 1) = @ite _ (goN ti tl s ∧ btP (wei ti tl wt) (nD ti tl) (dbest (wei ti tl wt) (nD ti tl) (goN ti tl) s) s) (Classical.propDecidable _) (some s) (dbest (wei ti tl wt) (nD ti tl) (goN ti tl) s) := rfl
        have hbl := dbest_lt (wei ti tl wt) (nD ti tl) (goN ti tl) s
        have l1 := ws_le hf s (nD ti tl)
        obtain ⟨mi3, ml3, s3, F3⟩ := s_goTogether (ro := ro) (d := d + 2) O OM M (nI s)
        have M3 := M.fr F3
        have Z3 : ∀ g, g < nD ti tl → mi3 77 g = nI (wei ti tl wt g) := fun g hg => by rw [F3.1 77 g rfl]; exact Z g hg
        generalize hb : dbest (wei ti tl wt) (nD ti tl) (goN ti tl) s = b at *
        have D3 : mdOK (wei ti tl wt) (nD ti tl) b mi3 := by
          cases b with
          | none => exact (F3.1 40 58 rfl).trans D
          | some t => exact ⟨(F3.1 40 58 rfl).trans D.1, (F3.1 40 59 rfl).trans D.2⟩
        have nobt : ¬ btP (wei ti tl wt) (nD ti tl) b s → ∀ mi ml, mP ti tl vi vl mi ml → (∀ g, g < nD ti tl → mi 77 g = nI (wei ti tl wt g)) → mdOK (wei ti tl wt) (nD ti tl) b mi → W_X12_findDraft_97 (cs ro (d + 5)) ro Q (nI wt) (nI (nD ti tl)) (nI (s + 1)) mi ml := fun h mi ml M Z D => ih mi ml M Z (by rw [hst, if_neg (fun q => h q.2)]; exact D)
        have go : btP (wei ti tl wt) (nD ti tl) b s → (∃ (r17 : Int32) (mi15 : cM1) (ml16 : cM2), cs ro (d + 5) 212 [.ref 40, .int (nI s)] (ab_G mi ml) (some (.int r17)) (ab_G mi15 ml16) ∧ (((r17 = 0) → (W_X12_findDraft_97 (cs ro (d + 5)) ro Q (nI wt) (nI (nD ti tl)) (nI (s + 1)) mi15 ml16)) ∧ (¬ (r17 = 0) → (W_X12_findDraft_97 (cs ro (d + 5)) ro Q (nI wt) (nI (nD ti tl)) (nI (s + 1)) (ab_ui (ab_ui mi15 40 58 (nI s)) 40 59 (nI (ws (wei ti tl wt) s (nD ti tl)))) ml16)))) := fun h => by
          refine ⟨_, _, _, s3, ?_⟩
          rw [pI_e0]
          refine ⟨fun c => ih _ _ M3 Z3 (by rw [hst, if_neg (fun q => c q.1)]; exact D3), fun c => ih _ _ ((M3.ui _ rfl rfl (by decide)).ui _ rfl rfl (by decide)) (fun g hg => by simp [ui_app]; exact Z3 g hg) ?_⟩
          rw [hst, if_pos ⟨Classical.not_not.1 c, h⟩]
          exact ⟨by simp [ui_app], by simp [ui_app]⟩
        cases b with
        | none =>
          have D' : mi 40 58 = -1 := D
          simp (disch := omega) only [Nat.lt_irrefl, D', m1_neg, nI_ltI, nI_eq, nI_clamp, nI_1, xl_0, xg_0, xe_0, xe_m1, nI_0, xl_1, xl_2, xl_3, xl_4, xl_5, xl_6, xl_7, xl_8, xl_9, xl_10, xl_12, xl_20, xl_30, xl_32, xl_40, xl_41, xl_42, xl_48, xl_57, xl_59, xl_64, xl_97, xl_100, xl_122, xl_126, xl_128, xl_1000, xl_9999, xg_1, xg_2, xg_3, xg_4, xg_5, xg_6, xg_7, xg_8, xg_9, xg_10, xg_12, xg_20, xg_30, xg_32, xg_40, xg_41, xg_42, xg_48, xg_57, xg_59, xg_64, xg_97, xg_100, xg_122, xg_126, xg_128, xg_1000, xg_9999, xe_1, xe_2, xe_3, xe_4, xe_5, xe_6, xe_7, xe_8, xe_9, xe_10, xe_12, xe_20, xe_30, xe_32, xe_40, xe_41, xe_42, xe_48, xe_57, xe_59, xe_64, xe_97, xe_100, xe_122, xe_126, xe_128, xe_1000, xe_9999, true_implies, false_implies, not_true_eq_false, not_false_eq_true, and_true, true_and, forall_const, imp_self, lc_eq, implies_true, vin, Bool.true_eq_false, Bool.false_eq_true, false_and, and_false, or_false, false_or, or_true, true_or]
          exact go trivial
        | some t =>
          obtain ⟨t1, t2⟩ := D
          have ht := (hbl t rfl).1
          have l2 := ws_le hf t (nD ti tl)
          have p1 := pcn_le (b3 (nI s)) 30
          have p2 := pcn_le (b3 (nI t)) 30
          have e1 : (mi 40 58 < 0) = False := by rw [t1]; exact xl_0 (by omega)
          simp (disch := omega) only [Nat.lt_irrefl, e1, t2, nI_ltI, nI_eq, nI_clamp, nI_1, xl_0, xg_0, xe_0, xe_m1, nI_0, xl_1, xl_2, xl_3, xl_4, xl_5, xl_6, xl_7, xl_8, xl_9, xl_10, xl_12, xl_20, xl_30, xl_32, xl_40, xl_41, xl_42, xl_48, xl_57, xl_59, xl_64, xl_97, xl_100, xl_122, xl_126, xl_128, xl_1000, xl_9999, xg_1, xg_2, xg_3, xg_4, xg_5, xg_6, xg_7, xg_8, xg_9, xg_10, xg_12, xg_20, xg_30, xg_32, xg_40, xg_41, xg_42, xg_48, xg_57, xg_59, xg_64, xg_97, xg_100, xg_122, xg_126, xg_128, xg_1000, xg_9999, xe_1, xe_2, xe_3, xe_4, xe_5, xe_6, xe_7, xe_8, xe_9, xe_10, xe_12, xe_20, xe_30, xe_32, xe_40, xe_41, xe_42, xe_48, xe_57, xe_59, xe_64, xe_97, xe_100, xe_122, xe_126, xe_128, xe_1000, xe_9999, true_implies, false_implies, not_true_eq_false, not_false_eq_true, and_true, true_and, forall_const, imp_self, lc_eq, implies_true, vin, Bool.true_eq_false, Bool.false_eq_true, false_and, and_false, or_false, false_or, or_true, true_or]
          refine ⟨fun c => go (Or.inl c), fun c => ⟨fun c2 => ⟨_, _, _, s_bits _, _, _, _, s_bits _, ?_⟩, fun c2 => nobt (fun q => q.elim c (fun q => c2 q.1)) _ _ M Z ⟨t1, t2⟩⟩⟩
          rw [t1, nI_ltI (by omega) (by omega)]
          refine ⟨fun c3 => go (Or.inr ⟨c2, c3⟩), fun c3 => nobt (fun q => q.elim c (fun q => c3 q.2)) _ _ M Z ⟨t1, t2⟩⟩
    · refine vc_X12_findDraft_97 _ _ _ mi ml ?_
      rw [bit_n (by omega)]
      simp (disch := omega) only [Nat.lt_irrefl, nI_ltI, nI_eq, nI_clamp, nI_1, xl_0, xg_0, xe_0, xe_m1, nI_0, xl_1, xl_2, xl_3, xl_4, xl_5, xl_6, xl_7, xl_8, xl_9, xl_10, xl_12, xl_20, xl_30, xl_32, xl_40, xl_41, xl_42, xl_48, xl_57, xl_59, xl_64, xl_97, xl_100, xl_122, xl_126, xl_128, xl_1000, xl_9999, xg_1, xg_2, xg_3, xg_4, xg_5, xg_6, xg_7, xg_8, xg_9, xg_10, xg_12, xg_20, xg_30, xg_32, xg_40, xg_41, xg_42, xg_48, xg_57, xg_59, xg_64, xg_97, xg_100, xg_122, xg_126, xg_128, xg_1000, xg_9999, xe_1, xe_2, xe_3, xe_4, xe_5, xe_6, xe_7, xe_8, xe_9, xe_10, xe_12, xe_20, xe_30, xe_32, xe_40, xe_41, xe_42, xe_48, xe_57, xe_59, xe_64, xe_97, xe_100, xe_122, xe_126, xe_128, xe_1000, xe_9999, true_implies, false_implies, not_true_eq_false, not_false_eq_true, and_true, true_and, forall_const, imp_self, lc_eq, implies_true, vin, Bool.true_eq_false, Bool.false_eq_true, false_and, and_false, or_false, false_or, or_true, true_or]
      exact hQ _ _ ⟨M, D⟩
  have start : W_X12_findDraft_25 (cs ro (d + 5)) ro Q (nI wt) (nI (nD ti tl)) 0 mi1 ml1 := by
    refine up0 (n := nD ti tl) (F := fun g => ∀ mi ml, mP ti tl vi vl mi ml → (∀ h, h < g → mi 77 h = nI (wei ti tl wt h)) → W_X12_findDraft_25 (cs ro (d + 5)) ro Q (nI wt) (nI (nD ti tl)) (nI g) mi ml) (fun g hg ih mi ml M Z => ?_) (fun mi ml M Z => ?_) mi1 ml1 M1 (fun h hh => absurd hh (Nat.not_lt_zero h))
    · refine vc_X12_findDraft_25 _ _ _ mi ml ?_
      have nx : ∀ mi3 ml3 v, fr bfI bfL mi ml mi3 ml3 → v = nI (wei ti tl wt g) → W_X12_findDraft_25 (cs ro (d + 5)) ro Q (nI wt) (nI (nD ti tl)) (nI (g + 1)) (ab_ui mi3 77 g v) ml3 := fun mi3 ml3 v F hv => ih _ _ ((M.fr F).ui _ rfl rfl (by decide)) (fun h hh => by
        rw [ui_app, if_pos rfl]
        by_cases e : h = g
        · rw [if_pos e, e]; exact hv
        · rw [if_neg e, F.1 77 h rfl]; exact Z h (by omega))
      by_cases c0 : wt = 0
      · simp (disch := omega) only [hg, eq_true c0, nI_ltI, nI_eq, nI_clamp, nI_1, xl_0, xg_0, xe_0, xe_m1, nI_0, xl_1, xl_2, xl_3, xl_4, xl_5, xl_6, xl_7, xl_8, xl_9, xl_10, xl_12, xl_20, xl_30, xl_32, xl_40, xl_41, xl_42, xl_48, xl_57, xl_59, xl_64, xl_97, xl_100, xl_122, xl_126, xl_128, xl_1000, xl_9999, xg_1, xg_2, xg_3, xg_4, xg_5, xg_6, xg_7, xg_8, xg_9, xg_10, xg_12, xg_20, xg_30, xg_32, xg_40, xg_41, xg_42, xg_48, xg_57, xg_59, xg_64, xg_97, xg_100, xg_122, xg_126, xg_128, xg_1000, xg_9999, xe_1, xe_2, xe_3, xe_4, xe_5, xe_6, xe_7, xe_8, xe_9, xe_10, xe_12, xe_20, xe_30, xe_32, xe_40, xe_41, xe_42, xe_48, xe_57, xe_59, xe_64, xe_97, xe_100, xe_122, xe_126, xe_128, xe_1000, xe_9999, true_implies, false_implies, not_true_eq_false, not_false_eq_true, and_true, true_and, forall_const, imp_self, lc_eq, implies_true, vin, Bool.true_eq_false, Bool.false_eq_true, false_and, and_false, or_false, false_or, or_true, true_or]
        exact ⟨_, _, _, s_handsOf O OM M (nI g), nx _ _ _ fr.rf (by unfold wei; rw [if_pos c0])⟩
      · by_cases c1 : wt = 1
        · simp (disch := omega) only [hg, c0, eq_true c1, nI_ltI, nI_eq, nI_clamp, nI_1, xl_0, xg_0, xe_0, xe_m1, nI_0, xl_1, xl_2, xl_3, xl_4, xl_5, xl_6, xl_7, xl_8, xl_9, xl_10, xl_12, xl_20, xl_30, xl_32, xl_40, xl_41, xl_42, xl_48, xl_57, xl_59, xl_64, xl_97, xl_100, xl_122, xl_126, xl_128, xl_1000, xl_9999, xg_1, xg_2, xg_3, xg_4, xg_5, xg_6, xg_7, xg_8, xg_9, xg_10, xg_12, xg_20, xg_30, xg_32, xg_40, xg_41, xg_42, xg_48, xg_57, xg_59, xg_64, xg_97, xg_100, xg_122, xg_126, xg_128, xg_1000, xg_9999, xe_1, xe_2, xe_3, xe_4, xe_5, xe_6, xe_7, xe_8, xe_9, xe_10, xe_12, xe_20, xe_30, xe_32, xe_40, xe_41, xe_42, xe_48, xe_57, xe_59, xe_64, xe_97, xe_100, xe_122, xe_126, xe_128, xe_1000, xe_9999, true_implies, false_implies, not_true_eq_false, not_false_eq_true, and_true, true_and, forall_const, imp_self, lc_eq, implies_true, vin, Bool.true_eq_false, Bool.false_eq_true, false_and, and_false, or_false, false_or, or_true, true_or]
          exact ⟨_, _, _, s_housesOf O OM M (nI g), nx _ _ _ fr.rf (by unfold wei; rw [if_neg c0, if_pos c1])⟩
        · by_cases c2 : wt = 2
          · obtain ⟨mi3, ml3, s3, F3⟩ := s_reachOf (ro := ro) (d := d + 1) O OM M (g := g) (by omega)
            simp (disch := omega) only [hg, c0, c1, eq_true c2, nI_ltI, nI_eq, nI_clamp, nI_1, xl_0, xg_0, xe_0, xe_m1, nI_0, xl_1, xl_2, xl_3, xl_4, xl_5, xl_6, xl_7, xl_8, xl_9, xl_10, xl_12, xl_20, xl_30, xl_32, xl_40, xl_41, xl_42, xl_48, xl_57, xl_59, xl_64, xl_97, xl_100, xl_122, xl_126, xl_128, xl_1000, xl_9999, xg_1, xg_2, xg_3, xg_4, xg_5, xg_6, xg_7, xg_8, xg_9, xg_10, xg_12, xg_20, xg_30, xg_32, xg_40, xg_41, xg_42, xg_48, xg_57, xg_59, xg_64, xg_97, xg_100, xg_122, xg_126, xg_128, xg_1000, xg_9999, xe_1, xe_2, xe_3, xe_4, xe_5, xe_6, xe_7, xe_8, xe_9, xe_10, xe_12, xe_20, xe_30, xe_32, xe_40, xe_41, xe_42, xe_48, xe_57, xe_59, xe_64, xe_97, xe_100, xe_122, xe_126, xe_128, xe_1000, xe_9999, true_implies, false_implies, not_true_eq_false, not_false_eq_true, and_true, true_and, forall_const, imp_self, lc_eq, implies_true, vin, Bool.true_eq_false, Bool.false_eq_true, false_and, and_false, or_false, false_or, or_true, true_or]
            exact ⟨_, _, _, s3, nx _ _ _ F3 (by unfold wei; rw [if_neg c0, if_neg c1, if_pos c2])⟩
          · simp (disch := omega) only [hg, c0, c1, c2, nI_ltI, nI_eq, nI_clamp, nI_1, xl_0, xg_0, xe_0, xe_m1, nI_0, xl_1, xl_2, xl_3, xl_4, xl_5, xl_6, xl_7, xl_8, xl_9, xl_10, xl_12, xl_20, xl_30, xl_32, xl_40, xl_41, xl_42, xl_48, xl_57, xl_59, xl_64, xl_97, xl_100, xl_122, xl_126, xl_128, xl_1000, xl_9999, xg_1, xg_2, xg_3, xg_4, xg_5, xg_6, xg_7, xg_8, xg_9, xg_10, xg_12, xg_20, xg_30, xg_32, xg_40, xg_41, xg_42, xg_48, xg_57, xg_59, xg_64, xg_97, xg_100, xg_122, xg_126, xg_128, xg_1000, xg_9999, xe_1, xe_2, xe_3, xe_4, xe_5, xe_6, xe_7, xe_8, xe_9, xe_10, xe_12, xe_20, xe_30, xe_32, xe_40, xe_41, xe_42, xe_48, xe_57, xe_59, xe_64, xe_97, xe_100, xe_122, xe_126, xe_128, xe_1000, xe_9999, true_implies, false_implies, not_true_eq_false, not_false_eq_true, and_true, true_and, forall_const, imp_self, lc_eq, implies_true, vin, Bool.true_eq_false, Bool.false_eq_true, false_and, and_false, or_false, false_or, or_true, true_or]
            exact ⟨_, _, _, s_groundsOf O OM M (nI g), nx _ _ _ fr.rf (by unfold wei; rw [if_neg c0, if_neg c1, if_neg c2])⟩
    · refine vc_X12_findDraft_25 _ _ _ mi ml ?_
      simp (disch := omega) only [Nat.lt_irrefl, nI_ltI, nI_eq, nI_clamp, nI_1, xl_0, xg_0, xe_0, xe_m1, nI_0, xl_1, xl_2, xl_3, xl_4, xl_5, xl_6, xl_7, xl_8, xl_9, xl_10, xl_12, xl_20, xl_30, xl_32, xl_40, xl_41, xl_42, xl_48, xl_57, xl_59, xl_64, xl_97, xl_100, xl_122, xl_126, xl_128, xl_1000, xl_9999, xg_1, xg_2, xg_3, xg_4, xg_5, xg_6, xg_7, xg_8, xg_9, xg_10, xg_12, xg_20, xg_30, xg_32, xg_40, xg_41, xg_42, xg_48, xg_57, xg_59, xg_64, xg_97, xg_100, xg_122, xg_126, xg_128, xg_1000, xg_9999, xe_1, xe_2, xe_3, xe_4, xe_5, xe_6, xe_7, xe_8, xe_9, xe_10, xe_12, xe_20, xe_30, xe_32, xe_40, xe_41, xe_42, xe_48, xe_57, xe_59, xe_64, xe_97, xe_100, xe_122, xe_126, xe_128, xe_1000, xe_9999, true_implies, false_implies, not_true_eq_false, not_false_eq_true, and_true, true_and, forall_const, imp_self, lc_eq, implies_true, vin, Bool.true_eq_false, Bool.false_eq_true, false_and, and_false, or_false, false_or, or_true, true_or]
      exact sets mi ml M Z
  rw [M1.2.1, xl_12 (by omega)]
  refine ⟨fun c => ?_, fun c => ?_⟩
  · have e : nD ti tl = nG ti tl := by unfold nD; rw [if_neg (by omega)]
    rw [e] at start; exact start
  · have e : nI (nD ti tl) = 12 := by
      by_cases q : 12 < nG ti tl
      · unfold nD; rw [if_pos q]; rfl
      · have : nG ti tl = 12 := by omega
        unfold nD; rw [if_neg q, this]; rfl
    rw [e] at start; exact start
end MW
