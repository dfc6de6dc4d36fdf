/-! vote, feed. -/
section VF
variable {ro : ab_E} {d : Nat} {ti mi vi : cM1} {tl ml vl : cM2}
theorem b3_put (x : Int32) {g : Nat} (hg : g < 32) (b : Bool) (i : Nat) : b3 (if b = true then x ||| ((1 : Int32) <<< (nI g &&& 31)) else x &&& (((1 : Int32) <<< (nI g &&& 31)) ^^^ (-1))) i = if i = g then b else b3 x i := by
  cases b with
  | true =>
    rw [if_pos rfl, b3_orbit _ hg]
    by_cases e : i = g
    · simp [e]
    · simp [e]
  | false =>
    rw [if_neg (by decide)]
    by_cases h : i < 32
    · rw [b3_and, b3_not _ h, b3_bit hg]
      by_cases e : i = g
      · simp [e]
      · simp [e]
    · have : ¬ i = g := by omega
      rw [b3_ge _ (by omega), if_neg this, b3_ge _ (by omega)]
theorem op_vote (x y : Int32) (b : Bool) : OP ro 123 224 [.int x, .int y, .int (bI b)] := by
  intro mi ml R
  obtain ⟨O, OM, K⟩ := R
  have R0 : rP mi ml mi ml := ⟨eqP.rf mi ml, K⟩
  by_cases c : (∃ h, h < 6 + 1 ∧ x = nI h) ∧ ∃ g, g < 5 + 1 ∧ y = nI g
  · obtain ⟨cx, cy⟩ := c
    obtain ⟨h, hh, rfl⟩ := id cx
    obtain ⟨g, hg, rfl⟩ := id cy
    generalize hv : (if b = true then mi 37 h ||| ((1 : Int32) <<< (nI g &&& 31)) else mi 37 h &&& (((1 : Int32) <<< (nI g &&& 31)) ^^^ (-1))) = v
    have hb : ∀ i, b3 v i = if i = g then b else b3 (mi 37 h) i := fun i => by rw [← hv]; exact b3_put _ (by omega) b i
    have s1 : cS ro 40 123 [.ref 0, .int (nI h), .int (nI g), .int (bI b)] mi ml (some (.int 1)) (ab_ui mi 37 h v) ml := by
      refine ab_sem_q rfl rfl (fun Q hQ => vc_X11_vote_0 _ _ _ mi ml ⟨_, _, _, s_isHouseC _, ?_⟩)
      rw [pI_1 ⟨h, hh, rfl⟩]
      refine ⟨fun q => (by cases q), fun _ => ?_⟩
      simp (disch := omega) only [show g < 6 by omega, nI_ltI, nI_eq, nI_clamp, nI_1, xl_0, xg_0, xe_0, xe_m1, nI_0, xl_1, xl_2, xl_3, xl_4, xl_5, xl_6, xl_7, xl_8, xl_9, xl_10, xl_12, xl_20, xl_30, xl_32, xl_40, xl_41, xl_42, xl_48, xl_57, xl_59, xl_64, xl_97, xl_100, xl_122, xl_126, xl_128, xl_1000, xl_9999, xg_1, xg_2, xg_3, xg_4, xg_5, xg_6, xg_7, xg_8, xg_9, xg_10, xg_12, xg_20, xg_30, xg_32, xg_40, xg_41, xg_42, xg_48, xg_57, xg_59, xg_64, xg_97, xg_100, xg_122, xg_126, xg_128, xg_1000, xg_9999, xe_1, xe_2, xe_3, xe_4, xe_5, xe_6, xe_7, xe_8, xe_9, xe_10, xe_12, xe_20, xe_30, xe_32, xe_40, xe_41, xe_42, xe_48, xe_57, xe_59, xe_64, xe_97, xe_100, xe_122, xe_126, xe_128, xe_1000, xe_9999, true_implies, false_implies, not_true_eq_false, not_false_eq_true, and_true, true_and, forall_const, imp_self, lc_eq, implies_true, vin, Bool.true_eq_false, Bool.false_eq_true, false_and, and_false, or_false, false_or, or_true, true_or]
      refine ⟨ab_ui mi 37 h v, ml, ab_sem_q rfl rfl (fun Q hQ => vc_X0_cast_0 _ _ _ mi ml ?_), hQ⟩
      rw [bI_0]
      simp (disch := omega) only [show h < 7 by omega, nI_ltI, nI_eq, nI_clamp, nI_1, xl_0, xg_0, xe_0, xe_m1, nI_0, xl_1, xl_2, xl_3, xl_4, xl_5, xl_6, xl_7, xl_8, xl_9, xl_10, xl_12, xl_20, xl_30, xl_32, xl_40, xl_41, xl_42, xl_48, xl_57, xl_59, xl_64, xl_97, xl_100, xl_122, xl_126, xl_128, xl_1000, xl_9999, xg_1, xg_2, xg_3, xg_4, xg_5, xg_6, xg_7, xg_8, xg_9, xg_10, xg_12, xg_20, xg_30, xg_32, xg_40, xg_41, xg_42, xg_48, xg_57, xg_59, xg_64, xg_97, xg_100, xg_122, xg_126, xg_128, xg_1000, xg_9999, xe_1, xe_2, xe_3, xe_4, xe_5, xe_6, xe_7, xe_8, xe_9, xe_10, xe_12, xe_20, xe_30, xe_32, xe_40, xe_41, xe_42, xe_48, xe_57, xe_59, xe_64, xe_97, xe_100, xe_122, xe_126, xe_128, xe_1000, xe_9999, true_implies, false_implies, not_true_eq_false, not_false_eq_true, and_true, true_and, forall_const, imp_self, lc_eq, implies_true, vin, Bool.true_eq_false, Bool.false_eq_true, false_and, and_false, or_false, false_or, or_true, true_or]
      cases b with
      | true => rw [if_pos rfl] at hv; rw [hv]; exact ⟨fun q => (by cases q), fun _ => hQ⟩
      | false => rw [if_neg (by decide)] at hv; rw [hv]; exact ⟨fun _ => hQ, fun q => absurd rfl q⟩
    have s2 : cS ro 40 224 [.ref 40, .int (nI h), .int (nI g), .int (bI b)] (ab_ui mi 37 h v) ml (some (.int 1)) (ab_ui (ab_ui (ab_ui mi 37 h v) 40 0 0) 78 (6 * h + g) (bI b)) ml := by
      refine ab_sem_q rfl rfl (fun Q hQ => vc_X12_vote_0 _ _ _ _ ml ⟨_, _, _, s_withinN _ 6 (by decide), ?_⟩)
      rw [pI_1 cx]
      refine ⟨fun q => (by cases q), fun _ => ⟨_, _, _, s_withinN _ 5 (by decide), ?_⟩⟩
      rw [pI_1 cy]
      refine ⟨fun q => (by cases q), fun _ => ?_⟩
      have hlt : 6 * h + g < 42 := by omega
      rw [n6, nI_add, nar_b, nI_clamp (by omega)]
      exact ⟨in_of hlt (by decide), hQ⟩
    have e37 : ∀ k, ab_ui (ab_ui (ab_ui mi 37 h v) 40 0 0) 78 (6 * h + g) (bI b) 37 k = if k = h then v else mi 37 k := fun k => by simp [ui_app]
    have e78 : ∀ k, ab_ui (ab_ui (ab_ui mi 37 h v) 40 0 0) 78 (6 * h + g) (bI b) 78 k = if k = 6 * h + g then bI b else mi 78 k := fun k => by simp [ui_app]
    refine ⟨_, _, _, _, _, s1, s2, ?_, ?_, keepG K rfl ⟨rfl, rfl, rfl, rfl, rfl, rfl, rfl, rfl, rfl, rfl⟩ (fun k j q => by rw [ui_else (P := gsI) (k := 78) (j := 6 * h + g) rfl q, ui_else (P := gsI) (k := 40) (j := 0) rfl q, ui_else (P := gsI) (k := 37) (j := h) rfl q])⟩
    · refine ⟨O.1, O.2.1, O.2.2.1, O.2.2.2.1, O.w, O.c, O.g, O.h, fun k hk i hi => ?_, O.d, O.t⟩
      rw [e37]
      by_cases e : k = h
      · rw [if_pos e, hb, if_neg (by omega)]; exact O.y h (by omega) i hi
      · rw [if_neg e]; exact O.y k hk i hi
    · refine ⟨⟨OM.s12, OM.s20, OM.s30, OM.s34, OM.s35, OM.s69, OM.s2⟩, OM.l, OM.w, OM.n, OM.h, OM.g, fun k hk i hi => ?_, OM.c, OM.t, OM.x⟩
      rw [e37, e78]
      by_cases e : k = h
      · rw [if_pos e, hb]
        by_cases e2 : i = g
        · rw [if_pos (by rw [e, e2]), if_pos e2]
        · rw [if_neg (by omega), if_neg e2, e]; exact OM.y h (by omega) i hi
      · rw [if_neg e, if_neg (by omega)]; exact OM.y k hk i hi
  · have s1 : cS ro 40 123 [.ref 0, .int x, .int y, .int (bI b)] mi ml (some (.int 0)) mi ml := by
      refine ab_sem_q rfl rfl (fun Q hQ => vc_X11_vote_0 _ _ _ mi ml ⟨_, _, _, s_isHouseC _, ?_⟩)
      rw [pI_e0]
      refine ⟨fun _ => hQ, fun c1 => ⟨fun _ => hQ, fun c2 => ⟨fun c3 => ?_, fun _ => hQ⟩⟩⟩
      exact absurd ⟨Classical.not_not.1 c1, (rg2 (n := 6) (by decide)).1 ⟨c2, c3⟩⟩ c
    have s2 : cS ro 40 224 [.ref 40, .int x, .int y, .int (bI b)] mi ml (some (.int 0)) (ab_ui mi 40 0 0) ml := by
      refine ab_sem_q rfl rfl (fun Q hQ => vc_X12_vote_0 _ _ _ _ ml ⟨_, _, _, s_withinN _ 6 (by decide), ?_⟩)
      rw [pI_e0]
      refine ⟨fun _ => hQ, fun c1 => ⟨_, _, _, s_withinN _ 5 (by decide), ?_⟩⟩
      rw [pI_e0]
      exact ⟨fun _ => hQ, fun c2 => absurd ⟨Classical.not_not.1 c1, Classical.not_not.1 c2⟩ c⟩
    exact ⟨_, _, _, _, _, s1, s2, Rel_q O OM R0 (R0.m.t 0)⟩
/-- a sign of a word of eight -/
def sgn (v : Int64) (k : Nat) : Nat := v.toBitVec.toNat / 2 ^ k % 256
theorem sgn_lt (v : Int64) (k : Nat) : sgn v k < 256 := Nat.mod_lt _ (by decide)
theorem b3_255 : ∀ i, i < 32 → b3 255 i = decide (i < 8) := by decide +kernel
theorem sgn_tb (v : Int64) (k i : Nat) (hi : i < 8) (hk : k + i < 64) : (sgn v k).testBit i = b6 v (k + i) := by
  unfold sgn b6
  rw [show 256 = 2 ^ 8 from rfl, Nat.testBit_mod_two_pow, Nat.testBit_div_two_pow]
  simp only [hi, decide_true, Bool.true_and]
  rw [Nat.add_comm]
  rfl
theorem sgn_s (v : Int64) {k : Nat} (hk : k ≤ 56) : (v >>> ((nI k).toInt64 &&& 63)).toInt32 &&& 255 = nI (sgn v k) := by
  have := sgn_lt v k
  apply b3_ext
  intro i hi
  rw [b3_and, b3_255 i hi, b3_i _ hi, b3_nI (by omega)]
  by_cases h : i < 8
  · rw [b6_shr _ (by omega), sgn_tb v k i h (by omega)]
    simp [h]
  · simp only [h, decide_false, Bool.and_false]
    exact (Nat.testBit_lt_two_pow (Nat.lt_of_lt_of_le this (Nat.pow_le_pow_right (show 0 < 2 by decide) (show 8 ≤ i by omega)))).symm
theorem sgn_u (v : Int64) {k : Nat} (hk : k ≤ 56) : ((v.toUInt64 >>> ((nI k).toInt64.toUInt64 &&& Int64.toUInt64 63)).toInt64).toInt32 &&& 255 = nI (sgn v k) := by
  have := sgn_lt v k
  have hu : (us6 v (nI k)).toBitVec.toNat = v.toBitVec.toNat / 2 ^ k := us6_n v (nI k) k (by
    have : ∀ k, k < 64 → ((nI k).toInt64.toUInt64 &&& Int64.toUInt64 63).toBitVec % 64 = BitVec.ofNat 64 k := by decide +kernel
    exact this k (by omega)) (by omega)
  show (us6 v (nI k)).toInt32 &&& 255 = _
  apply b3_ext
  intro i hi
  rw [b3_and, b3_255 i hi, b3_i _ hi, b3_nI (by omega)]
  by_cases h : i < 8
  · have e : b6 (us6 v (nI k)) i = (v.toBitVec.toNat / 2 ^ k).testBit i := by
      rw [← hu]; rfl
    rw [e, sgn_tb v k i h (by omega), Nat.testBit_div_two_pow, Nat.add_comm]
    simp [h]
    rfl
  · simp only [h, decide_false, Bool.and_false]
    exact (Nat.testBit_lt_two_pow (Nat.lt_of_lt_of_le this (Nat.pow_le_pow_right (show 0 < 2 by decide) (show 8 ≤ i by omega)))).symm
end VF
