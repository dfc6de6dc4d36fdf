/-! Words, atoms, numbers at a token. -/
def wlen (j : Nat) : Nat := (ab_sbs.getD j []).length
/-- the token at p is the word j -/
def wdP (T : tSt) (j p : Nat) : Prop := tK T p = 2 ∧ tE T p - tS T p = wlen j ∧ ∀ i, i < wlen j → nI (T.2 (tS T p + i)) = ab_sb j i
theorem sb_c : ∀ j, j < 15 → ∀ i, i < 8 → ((((ab_sb j i) &&& 255)).toUInt32 % 65536).toInt32 = ab_sb j i := by decide +kernel
theorem nar_ch : ∀ c, c < 128 → narrow .char (.int (nI c)) = .int (nI c) := by
  intro c hc
  have h : ∀ c, c < 128 → ((nI c).toUInt32 % 65536).toInt32 = nI c := by decide +kernel
  have := h c hc
  simp only [narrow]
  congr 1
theorem sb_n : ∀ j, j < 15 → ∀ i, i < 8 → narrow .char (.int (ab_sb j i)) = .int (ab_sb j i) := by
  intro j hj i hi
  have h : ∀ j, j < 15 → ∀ i, i < 8 → ∃ c, c < 128 ∧ ab_sb j i = nI c := by decide +kernel
  obtain ⟨c, hc, e⟩ := h j hj i hi
  rw [e]
  exact nar_ch c hc
section WD
variable {L : Nat} {xs : Nat → Int32} {d : Nat} {ti mi vi : cM1} {tl ml vl : cM2} {T : tSt}
theorem s_ckI {i n : Nat} (h : i < n) (hn : n < 2 ^ 31) : cS (ab_ro L xs) (d + 2) 248 [.int (nI i), .int (nI n)] mi ml none mi ml := by
  refine ab_sem_q rfl rfl (fun Q hQ => vc_J0_checkIndex_df160_0 _ _ mi ml ⟨nI i, mi, ml, ab_sem_q rfl rfl (fun Q hQ => vc_J3_checkIndex_8e157_0 _ _ mi ml ?_), hQ⟩)
  have : i < 2 ^ 31 := by omega
  simp (disch := omega) only [h, nI_ltI, nI_eq, nI_clamp, nI_1, xl_0, xg_0, xe_0, xe_m1, nI_0, xl_1, xl_2, xl_3, xl_4, xl_5, xl_6, xl_7, xl_8, xl_9, xl_10, xl_12, xl_20, xl_30, xl_32, xl_40, xl_41, xl_42, xl_48, xl_57, xl_59, xl_64, xl_97, xl_100, xl_122, xl_126, xl_128, xl_1000, xl_9999, xg_1, xg_2, xg_3, xg_4, xg_5, xg_6, xg_7, xg_8, xg_9, xg_10, xg_12, xg_20, xg_30, xg_32, xg_40, xg_41, xg_42, xg_48, xg_57, xg_59, xg_64, xg_97, xg_100, xg_122, xg_126, xg_128, xg_1000, xg_9999, xe_1, xe_2, xe_3, xe_4, xe_5, xe_6, xe_7, xe_8, xe_9, xe_10, xe_12, xe_20, xe_30, xe_32, xe_40, xe_41, xe_42, xe_48, xe_57, xe_59, xe_64, xe_97, xe_100, xe_122, xe_126, xe_128, xe_1000, xe_9999, true_implies, false_implies, not_true_eq_false, not_false_eq_true, and_true, true_and, forall_const, imp_self, lc_eq, implies_true, vin, Bool.true_eq_false, Bool.false_eq_true, false_and, and_false, or_false, false_or, or_true, true_or]
  exact hQ
theorem wd_lt (Z : tOK T) {p i : Nat} (hp : p ≤ T.1) (h : i < tE T p - tS T p) : tS T p + i < T.1 := by
  have := tE_le T hp
  omega
theorem s_len0 : cS (ab_ro L xs) (d + 2) 244 [.ref 1000000] mi ml (some (.int (nI 4))) mi ml := by
  refine ab_sem_q rfl rfl (fun Q hQ => vc_J0_length_8abf5_s0_0 mi ml ⟨0, mi, ml, ab_sem_q rfl rfl (fun Q hQ => vc_J0_coder_7d493_s0_0 mi ml ⟨by decide +kernel, hQ⟩), ?_⟩)
  have e : (Int32.ofNat 4) >>> ((0 : Int32) &&& 31) = nI 4 := by decide +kernel
  rw [e]; exact hQ
theorem s_chr0 {i : Nat} (hi : i < 4) : cS (ab_ro L xs) (d + 4) 245 [.ref 1000000, .int (nI i)] mi ml (some (.int (ab_sb 0 i))) mi ml := by
  have e := sb_c 0 (by decide) i (by omega)
  have e2 := sb_n 0 (by decide) i (by omega)
  have s1 : cS (ab_ro L xs) (d + 3) 249 [.ref 1000100, .int (nI i)] mi ml (some (.int (ab_sb 0 i))) mi ml := by
    refine ab_sem_q rfl rfl (fun Q hQ => vc_J1_charAt_3b067_s0_0 _ mi ml ⟨_, _, s_ckI (n := 4) hi (by decide), ?_⟩)
    rw [nI_clamp (by omega), e]
    exact ⟨in_of hi (by decide), e2, hQ⟩
  exact ab_sem_q rfl rfl (fun Q hQ => vc_J0_charAt_5068e_s0_0 _ mi ml ⟨1, mi, ml, ab_sem_q rfl rfl (fun Q hQ => vc_J0_isLatin1_aae02_s0_0 mi ml hQ), fun q => (by cases q), fun _ => ⟨_, _, _, s1, e2, hQ⟩⟩)
theorem s_wd0 (Z : tOK T) (C : cT T mi) {p : Nat} (hp : p ≤ T.1) (S : TS T p mi) : cS (ab_ro L xs) (d + 5) 86 [.ref 2, .ref 1000000] mi ml (some (.int (pI (wdP T 0 p)))) mi ml := by
  have hn := Z.1
  have hs := tS_le T hp
  have he := tE_le T hp
  refine ab_sem_q rfl rfl (fun Q hQ => vc_X8_isWord_s0_0 mi ml ?_)
  have hk : tK T p < 2 ^ 31 := by have := kd_7 T (tS T p); unfold tK; split <;> omega
  rw [S.1, S.2.1, S.2.2, xe_2 hk]
  refine ⟨fun c => ⟨_, _, _, s_len0, ?_⟩, fun c => ?_⟩
  · have hle : tS T p ≤ tE T p := by
      by_cases q : tS T p < T.1
      · have := tE_gt Z q; omega
      · have k0 : kd T (tS T p) = 0 := kd_0.2 (by omega)
        unfold tK at c; rw [k0] at c; simp at c
    rw [nI_m hle, nI_eq (by omega) (by omega)]
    refine ⟨fun c2 => ?_, fun c2 => ?_⟩
    · refine up0 (n := 4) (F := fun i => (∀ k, k < i → nI (T.2 (tS T p + k)) = ab_sb 0 k) → W_X8_isWord_s0_28 (cs (ab_ro L xs) (d + 4)) (ab_ro L xs) Q (nI i) mi ml) (fun i hi ih hyes => ?_) (fun hyes => ?_) (fun k hk => absurd hk (Nat.not_lt_zero k))
      · refine vc_X8_isWord_s0_28 _ mi ml ⟨_, _, _, s_len0, ?_⟩
        have hlt : tS T p + i < T.1 := by omega
        have e3 := (C.2 _ hlt).1
        rw [S.1, C.1, nI_add]
        simp (disch := omega) only [hi, hlt, e3, nI_ltI, nI_eq, nI_clamp, nI_1, xl_0, xg_0, xe_0, xe_m1, nI_0, xl_1, xl_2, xl_3, xl_4, xl_5, xl_6, xl_7, xl_8, xl_9, xl_10, xl_12, xl_20, xl_30, xl_32, xl_40, xl_41, xl_42, xl_48, xl_57, xl_59, xl_64, xl_97, xl_100, xl_122, xl_126, xl_128, xl_1000, xl_9999, xg_1, xg_2, xg_3, xg_4, xg_5, xg_6, xg_7, xg_8, xg_9, xg_10, xg_12, xg_20, xg_30, xg_32, xg_40, xg_41, xg_42, xg_48, xg_57, xg_59, xg_64, xg_97, xg_100, xg_122, xg_126, xg_128, xg_1000, xg_9999, xe_1, xe_2, xe_3, xe_4, xe_5, xe_6, xe_7, xe_8, xe_9, xe_10, xe_12, xe_20, xe_30, xe_32, xe_40, xe_41, xe_42, xe_48, xe_57, xe_59, xe_64, xe_97, xe_100, xe_122, xe_126, xe_128, xe_1000, xe_9999, true_implies, false_implies, not_true_eq_false, not_false_eq_true, and_true, true_and, forall_const, imp_self, lc_eq, implies_true, vin, Bool.true_eq_false, Bool.false_eq_true, false_and, and_false, or_false, false_or, or_true, true_or]
        refine ⟨_, _, _, s_chr0 hi, fun c3 => ih (fun k hk => ?_), fun c3 => ?_⟩
        · rcases Nat.lt_or_eq_of_le (Nat.le_of_lt_succ hk) with q | q
          · exact hyes k q
          · rw [q]; exact c3
        · rw [pI_0 (fun h => c3 (h.2.2 i hi))] at hQ; exact hQ
      · refine vc_X8_isWord_s0_28 _ mi ml ⟨_, _, _, s_len0, ?_⟩
        simp (disch := omega) only [Nat.lt_irrefl, nI_ltI, nI_eq, nI_clamp, nI_1, xl_0, xg_0, xe_0, xe_m1, nI_0, xl_1, xl_2, xl_3, xl_4, xl_5, xl_6, xl_7, xl_8, xl_9, xl_10, xl_12, xl_20, xl_30, xl_32, xl_40, xl_41, xl_42, xl_48, xl_57, xl_59, xl_64, xl_97, xl_100, xl_122, xl_126, xl_128, xl_1000, xl_9999, xg_1, xg_2, xg_3, xg_4, xg_5, xg_6, xg_7, xg_8, xg_9, xg_10, xg_12, xg_20, xg_30, xg_32, xg_40, xg_41, xg_42, xg_48, xg_57, xg_59, xg_64, xg_97, xg_100, xg_122, xg_126, xg_128, xg_1000, xg_9999, xe_1, xe_2, xe_3, xe_4, xe_5, xe_6, xe_7, xe_8, xe_9, xe_10, xe_12, xe_20, xe_30, xe_32, xe_40, xe_41, xe_42, xe_48, xe_57, xe_59, xe_64, xe_97, xe_100, xe_122, xe_126, xe_128, xe_1000, xe_9999, true_implies, false_implies, not_true_eq_false, not_false_eq_true, and_true, true_and, forall_const, imp_self, lc_eq, implies_true, vin, Bool.true_eq_false, Bool.false_eq_true, false_and, and_false, or_false, false_or, or_true, true_or]
        rw [pI_1 ⟨c, c2, hyes⟩] at hQ; exact hQ
    · rw [pI_0 (fun h => c2 h.2.1)] at hQ; exact hQ
  · rw [pI_0 (fun h => c h.1)] at hQ; exact hQ
theorem s_len1 : cS (ab_ro L xs) (d + 2) 244 [.ref 1000001] mi ml (some (.int (nI 3))) mi ml := by
  refine ab_sem_q rfl rfl (fun Q hQ => vc_J0_length_8abf5_s1_0 mi ml ⟨0, mi, ml, ab_sem_q rfl rfl (fun Q hQ => vc_J0_coder_7d493_s1_0 mi ml ⟨by decide +kernel, hQ⟩), ?_⟩)
  have e : (Int32.ofNat 3) >>> ((0 : Int32) &&& 31) = nI 3 := by decide +kernel
  rw [e]; exact hQ
theorem s_chr1 {i : Nat} (hi : i < 3) : cS (ab_ro L xs) (d + 4) 245 [.ref 1000001, .int (nI i)] mi ml (some (.int (ab_sb 1 i))) mi ml := by
  have e := sb_c 1 (by decide) i (by omega)
  have e2 := sb_n 1 (by decide) i (by omega)
  have s1 : cS (ab_ro L xs) (d + 3) 249 [.ref 1000101, .int (nI i)] mi ml (some (.int (ab_sb 1 i))) mi ml := by
    refine ab_sem_q rfl rfl (fun Q hQ => vc_J1_charAt_3b067_s1_0 _ mi ml ⟨_, _, s_ckI (n := 3) hi (by decide), ?_⟩)
    rw [nI_clamp (by omega), e]
    exact ⟨in_of hi (by decide), e2, hQ⟩
  exact ab_sem_q rfl rfl (fun Q hQ => vc_J0_charAt_5068e_s1_0 _ mi ml ⟨1, mi, ml, ab_sem_q rfl rfl (fun Q hQ => vc_J0_isLatin1_aae02_s1_0 mi ml hQ), fun q => (by cases q), fun _ => ⟨_, _, _, s1, e2, hQ⟩⟩)
theorem s_wd1 (Z : tOK T) (C : cT T mi) {p : Nat} (hp : p ≤ T.1) (S : TS T p mi) : cS (ab_ro L xs) (d + 5) 86 [.ref 2, .ref 1000001] mi ml (some (.int (pI (wdP T 1 p)))) mi ml := by
  have hn := Z.1
  have hs := tS_le T hp
  have he := tE_le T hp
  refine ab_sem_q rfl rfl (fun Q hQ => vc_X8_isWord_s1_0 mi ml ?_)
  have hk : tK T p < 2 ^ 31 := by have := kd_7 T (tS T p); unfold tK; split <;> omega
  rw [S.1, S.2.1, S.2.2, xe_2 hk]
  refine ⟨fun c => ⟨_, _, _, s_len1, ?_⟩, fun c => ?_⟩
  · have hle : tS T p ≤ tE T p := by
      by_cases q : tS T p < T.1
      · have := tE_gt Z q; omega
      · have k0 : kd T (tS T p) = 0 := kd_0.2 (by omega)
        unfold tK at c; rw [k0] at c; simp at c
    rw [nI_m hle, nI_eq (by omega) (by omega)]
    refine ⟨fun c2 => ?_, fun c2 => ?_⟩
    · refine up0 (n := 3) (F := fun i => (∀ k, k < i → nI (T.2 (tS T p + k)) = ab_sb 1 k) → W_X8_isWord_s1_28 (cs (ab_ro L xs) (d + 4)) (ab_ro L xs) Q (nI i) mi ml) (fun i hi ih hyes => ?_) (fun hyes => ?_) (fun k hk => absurd hk (Nat.not_lt_zero k))
      · refine vc_X8_isWord_s1_28 _ mi ml ⟨_, _, _, s_len1, ?_⟩
        have hlt : tS T p + i < T.1 := by omega
        have e3 := (C.2 _ hlt).1
        rw [S.1, C.1, nI_add]
        simp (disch := omega) only [hi, hlt, e3, nI_ltI, nI_eq, nI_clamp, nI_1, xl_0, xg_0, xe_0, xe_m1, nI_0, xl_1, xl_2, xl_3, xl_4, xl_5, xl_6, xl_7, xl_8, xl_9, xl_10, xl_12, xl_20, xl_30, xl_32, xl_40, xl_41, xl_42, xl_48, xl_57, xl_59, xl_64, xl_97, xl_100, xl_122, xl_126, xl_128, xl_1000, xl_9999, xg_1, xg_2, xg_3, xg_4, xg_5, xg_6, xg_7, xg_8, xg_9, xg_10, xg_12, xg_20, xg_30, xg_32, xg_40, xg_41, xg_42, xg_48, xg_57, xg_59, xg_64, xg_97, xg_100, xg_122, xg_126, xg_128, xg_1000, xg_9999, xe_1, xe_2, xe_3, xe_4, xe_5, xe_6, xe_7, xe_8, xe_9, xe_10, xe_12, xe_20, xe_30, xe_32, xe_40, xe_41, xe_42, xe_48, xe_57, xe_59, xe_64, xe_97, xe_100, xe_122, xe_126, xe_128, xe_1000, xe_9999, true_implies, false_implies, not_true_eq_false, not_false_eq_true, and_true, true_and, forall_const, imp_self, lc_eq, implies_true, vin, Bool.true_eq_false, Bool.false_eq_true, false_and, and_false, or_false, false_or, or_true, true_or]
        refine ⟨_, _, _, s_chr1 hi, fun c3 => ih (fun k hk => ?_), fun c3 => ?_⟩
        · rcases Nat.lt_or_eq_of_le (Nat.le_of_lt_succ hk) with q | q
          · exact hyes k q
          · rw [q]; exact c3
        · rw [pI_0 (fun h => c3 (h.2.2 i hi))] at hQ; exact hQ
      · refine vc_X8_isWord_s1_28 _ mi ml ⟨_, _, _, s_len1, ?_⟩
        simp (disch := omega) only [Nat.lt_irrefl, nI_ltI, nI_eq, nI_clamp, nI_1, xl_0, xg_0, xe_0, xe_m1, nI_0, xl_1, xl_2, xl_3, xl_4, xl_5, xl_6, xl_7, xl_8, xl_9, xl_10, xl_12, xl_20, xl_30, xl_32, xl_40, xl_41, xl_42, xl_48, xl_57, xl_59, xl_64, xl_97, xl_100, xl_122, xl_126, xl_128, xl_1000, xl_9999, xg_1, xg_2, xg_3, xg_4, xg_5, xg_6, xg_7, xg_8, xg_9, xg_10, xg_12, xg_20, xg_30, xg_32, xg_40, xg_41, xg_42, xg_48, xg_57, xg_59, xg_64, xg_97, xg_100, xg_122, xg_126, xg_128, xg_1000, xg_9999, xe_1, xe_2, xe_3, xe_4, xe_5, xe_6, xe_7, xe_8, xe_9, xe_10, xe_12, xe_20, xe_30, xe_32, xe_40, xe_41, xe_42, xe_48, xe_57, xe_59, xe_64, xe_97, xe_100, xe_122, xe_126, xe_128, xe_1000, xe_9999, true_implies, false_implies, not_true_eq_false, not_false_eq_true, and_true, true_and, forall_const, imp_self, lc_eq, implies_true, vin, Bool.true_eq_false, Bool.false_eq_true, false_and, and_false, or_false, false_or, or_true, true_or]
        rw [pI_1 ⟨c, c2, hyes⟩] at hQ; exact hQ
    · rw [pI_0 (fun h => c2 h.2.1)] at hQ; exact hQ
  · rw [pI_0 (fun h => c h.1)] at hQ; exact hQ
theorem s_len2 : cS (ab_ro L xs) (d + 2) 244 [.ref 1000002] mi ml (some (.int (nI 2))) mi ml := by
  refine ab_sem_q rfl rfl (fun Q hQ => vc_J0_length_8abf5_s2_0 mi ml ⟨0, mi, ml, ab_sem_q rfl rfl (fun Q hQ => vc_J0_coder_7d493_s2_0 mi ml ⟨by decide +kernel, hQ⟩), ?_⟩)
  have e : (Int32.ofNat 2) >>> ((0 : Int32) &&& 31) = nI 2 := by decide +kernel
  rw [e]; exact hQ
theorem s_chr2 {i : Nat} (hi : i < 2) : cS (ab_ro L xs) (d + 4) 245 [.ref 1000002, .int (nI i)] mi ml (some (.int (ab_sb 2 i))) mi ml := by
  have e := sb_c 2 (by decide) i (by omega)
  have e2 := sb_n 2 (by decide) i (by omega)
  have s1 : cS (ab_ro L xs) (d + 3) 249 [.ref 1000102, .int (nI i)] mi ml (some (.int (ab_sb 2 i))) mi ml := by
    refine ab_sem_q rfl rfl (fun Q hQ => vc_J1_charAt_3b067_s2_0 _ mi ml ⟨_, _, s_ckI (n := 2) hi (by decide), ?_⟩)
    rw [nI_clamp (by omega), e]
    exact ⟨in_of hi (by decide), e2, hQ⟩
  exact ab_sem_q rfl rfl (fun Q hQ => vc_J0_charAt_5068e_s2_0 _ mi ml ⟨1, mi, ml, ab_sem_q rfl rfl (fun Q hQ => vc_J0_isLatin1_aae02_s2_0 mi ml hQ), fun q => (by cases q), fun _ => ⟨_, _, _, s1, e2, hQ⟩⟩)
theorem s_wd2 (Z : tOK T) (C : cT T mi) {p : Nat} (hp : p ≤ T.1) (S : TS T p mi) : cS (ab_ro L xs) (d + 5) 86 [.ref 2, .ref 1000002] mi ml (some (.int (pI (wdP T 2 p)))) mi ml := by
  have hn := Z.1
  have hs := tS_le T hp
  have he := tE_le T hp
  refine ab_sem_q rfl rfl (fun Q hQ => vc_X8_isWord_s2_0 mi ml ?_)
  have hk : tK T p < 2 ^ 31 := by have := kd_7 T (tS T p); unfold tK; split <;> omega
  rw [S.1, S.2.1, S.2.2, xe_2 hk]
  refine ⟨fun c => ⟨_, _, _, s_len2, ?_⟩, fun c => ?_⟩
  · have hle : tS T p ≤ tE T p := by
      by_cases q : tS T p < T.1
      · have := tE_gt Z q; omega
      · have k0 : kd T (tS T p) = 0 := kd_0.2 (by omega)
        unfold tK at c; rw [k0] at c; simp at c
    rw [nI_m hle, nI_eq (by omega) (by omega)]
    refine ⟨fun c2 => ?_, fun c2 => ?_⟩
    · refine up0 (n := 2) (F := fun i => (∀ k, k < i → nI (T.2 (tS T p + k)) = ab_sb 2 k) → W_X8_isWord_s2_28 (cs (ab_ro L xs) (d + 4)) (ab_ro L xs) Q (nI i) mi ml) (fun i hi ih hyes => ?_) (fun hyes => ?_) (fun k hk => absurd hk (Nat.not_lt_zero k))
      · refine vc_X8_isWord_s2_28 _ mi ml ⟨_, _, _, s_len2, ?_⟩
        have hlt : tS T p + i < T.1 := by omega
        have e3 := (C.2 _ hlt).1
        rw [S.1, C.1, nI_add]
        simp (disch := omega) only [hi, hlt, e3, nI_ltI, nI_eq, nI_clamp, nI_1, xl_0, xg_0, xe_0, xe_m1, nI_0, xl_1, xl_2, xl_3, xl_4, xl_5, xl_6, xl_7, xl_8, xl_9, xl_10, xl_12, xl_20, xl_30, xl_32, xl_40, xl_41, xl_42, xl_48, xl_57, xl_59, xl_64, xl_97, xl_100, xl_122, xl_126, xl_128, xl_1000, xl_9999, xg_1, xg_2, xg_3, xg_4, xg_5, xg_6, xg_7, xg_8, xg_9, xg_10, xg_12, xg_20, xg_30, xg_32, xg_40, xg_41, xg_42, xg_48, xg_57, xg_59, xg_64, xg_97, xg_100, xg_122, xg_126, xg_128, xg_1000, xg_9999, xe_1, xe_2, xe_3, xe_4, xe_5, xe_6, xe_7, xe_8, xe_9, xe_10, xe_12, xe_20, xe_30, xe_32, xe_40, xe_41, xe_42, xe_48, xe_57, xe_59, xe_64, xe_97, xe_100, xe_122, xe_126, xe_128, xe_1000, xe_9999, true_implies, false_implies, not_true_eq_false, not_false_eq_true, and_true, true_and, forall_const, imp_self, lc_eq, implies_true, vin, Bool.true_eq_false, Bool.false_eq_true, false_and, and_false, or_false, false_or, or_true, true_or]
        refine ⟨_, _, _, s_chr2 hi, fun c3 => ih (fun k hk => ?_), fun c3 => ?_⟩
        · rcases Nat.lt_or_eq_of_le (Nat.le_of_lt_succ hk) with q | q
          · exact hyes k q
          · rw [q]; exact c3
        · rw [pI_0 (fun h => c3 (h.2.2 i hi))] at hQ; exact hQ
      · refine vc_X8_isWord_s2_28 _ mi ml ⟨_, _, _, s_len2, ?_⟩
        simp (disch := omega) only [Nat.lt_irrefl, nI_ltI, nI_eq, nI_clamp, nI_1, xl_0, xg_0, xe_0, xe_m1, nI_0, xl_1, xl_2, xl_3, xl_4, xl_5, xl_6, xl_7, xl_8, xl_9, xl_10, xl_12, xl_20, xl_30, xl_32, xl_40, xl_41, xl_42, xl_48, xl_57, xl_59, xl_64, xl_97, xl_100, xl_122, xl_126, xl_128, xl_1000, xl_9999, xg_1, xg_2, xg_3, xg_4, xg_5, xg_6, xg_7, xg_8, xg_9, xg_10, xg_12, xg_20, xg_30, xg_32, xg_40, xg_41, xg_42, xg_48, xg_57, xg_59, xg_64, xg_97, xg_100, xg_122, xg_126, xg_128, xg_1000, xg_9999, xe_1, xe_2, xe_3, xe_4, xe_5, xe_6, xe_7, xe_8, xe_9, xe_10, xe_12, xe_20, xe_30, xe_32, xe_40, xe_41, xe_42, xe_48, xe_57, xe_59, xe_64, xe_97, xe_100, xe_122, xe_126, xe_128, xe_1000, xe_9999, true_implies, false_implies, not_true_eq_false, not_false_eq_true, and_true, true_and, forall_const, imp_self, lc_eq, implies_true, vin, Bool.true_eq_false, Bool.false_eq_true, false_and, and_false, or_false, false_or, or_true, true_or]
        rw [pI_1 ⟨c, c2, hyes⟩] at hQ; exact hQ
    · rw [pI_0 (fun h => c2 h.2.1)] at hQ; exact hQ
  · rw [pI_0 (fun h => c h.1)] at hQ; exact hQ
theorem s_len3 : cS (ab_ro L xs) (d + 2) 244 [.ref 1000003] mi ml (some (.int (nI 6))) mi ml := by
  refine ab_sem_q rfl rfl (fun Q hQ => vc_J0_length_8abf5_s3_0 mi ml ⟨0, mi, ml, ab_sem_q rfl rfl (fun Q hQ => vc_J0_coder_7d493_s3_0 mi ml ⟨by decide +kernel, hQ⟩), ?_⟩)
  have e : (Int32.ofNat 6) >>> ((0 : Int32) &&& 31) = nI 6 := by decide +kernel
  rw [e]; exact hQ
theorem s_chr3 {i : Nat} (hi : i < 6) : cS (ab_ro L xs) (d + 4) 245 [.ref 1000003, .int (nI i)] mi ml (some (.int (ab_sb 3 i))) mi ml := by
  have e := sb_c 3 (by decide) i (by omega)
  have e2 := sb_n 3 (by decide) i (by omega)
  have s1 : cS (ab_ro L xs) (d + 3) 249 [.ref 1000103, .int (nI i)] mi ml (some (.int (ab_sb 3 i))) mi ml := by
    refine ab_sem_q rfl rfl (fun Q hQ => vc_J1_charAt_3b067_s3_0 _ mi ml ⟨_, _, s_ckI (n := 6) hi (by decide), ?_⟩)
    rw [nI_clamp (by omega), e]
    exact ⟨in_of hi (by decide), e2, hQ⟩
  exact ab_sem_q rfl rfl (fun Q hQ => vc_J0_charAt_5068e_s3_0 _ mi ml ⟨1, mi, ml, ab_sem_q rfl rfl (fun Q hQ => vc_J0_isLatin1_aae02_s3_0 mi ml hQ), fun q => (by cases q), fun _ => ⟨_, _, _, s1, e2, hQ⟩⟩)
theorem s_wd3 (Z : tOK T) (C : cT T mi) {p : Nat} (hp : p ≤ T.1) (S : TS T p mi) : cS (ab_ro L xs) (d + 5) 86 [.ref 2, .ref 1000003] mi ml (some (.int (pI (wdP T 3 p)))) mi ml := by
  have hn := Z.1
  have hs := tS_le T hp
  have he := tE_le T hp
  refine ab_sem_q rfl rfl (fun Q hQ => vc_X8_isWord_s3_0 mi ml ?_)
  have hk : tK T p < 2 ^ 31 := by have := kd_7 T (tS T p); unfold tK; split <;> omega
  rw [S.1, S.2.1, S.2.2, xe_2 hk]
  refine ⟨fun c => ⟨_, _, _, s_len3, ?_⟩, fun c => ?_⟩
  · have hle : tS T p ≤ tE T p := by
      by_cases q : tS T p < T.1
      · have := tE_gt Z q; omega
      · have k0 : kd T (tS T p) = 0 := kd_0.2 (by omega)
        unfold tK at c; rw [k0] at c; simp at c
    rw [nI_m hle, nI_eq (by omega) (by omega)]
    refine ⟨fun c2 => ?_, fun c2 => ?_⟩
    · refine up0 (n := 6) (F := fun i => (∀ k, k < i → nI (T.2 (tS T p + k)) = ab_sb 3 k) → W_X8_isWord_s3_28 (cs (ab_ro L xs) (d + 4)) (ab_ro L xs) Q (nI i) mi ml) (fun i hi ih hyes => ?_) (fun hyes => ?_) (fun k hk => absurd hk (Nat.not_lt_zero k))
      · refine vc_X8_isWord_s3_28 _ mi ml ⟨_, _, _, s_len3, ?_⟩
        have hlt : tS T p + i < T.1 := by omega
        have e3 := (C.2 _ hlt).1
        rw [S.1, C.1, nI_add]
        simp (disch := omega) only [hi, hlt, e3, nI_ltI, nI_eq, nI_clamp, nI_1, xl_0, xg_0, xe_0, xe_m1, nI_0, xl_1, xl_2, xl_3, xl_4, xl_5, xl_6, xl_7, xl_8, xl_9, xl_10, xl_12, xl_20, xl_30, xl_32, xl_40, xl_41, xl_42, xl_48, xl_57, xl_59, xl_64, xl_97, xl_100, xl_122, xl_126, xl_128, xl_1000, xl_9999, xg_1, xg_2, xg_3, xg_4, xg_5, xg_6, xg_7, xg_8, xg_9, xg_10, xg_12, xg_20, xg_30, xg_32, xg_40, xg_41, xg_42, xg_48, xg_57, xg_59, xg_64, xg_97, xg_100, xg_122, xg_126, xg_128, xg_1000, xg_9999, xe_1, xe_2, xe_3, xe_4, xe_5, xe_6, xe_7, xe_8, xe_9, xe_10, xe_12, xe_20, xe_30, xe_32, xe_40, xe_41, xe_42, xe_48, xe_57, xe_59, xe_64, xe_97, xe_100, xe_122, xe_126, xe_128, xe_1000, xe_9999, true_implies, false_implies, not_true_eq_false, not_false_eq_true, and_true, true_and, forall_const, imp_self, lc_eq, implies_true, vin, Bool.true_eq_false, Bool.false_eq_true, false_and, and_false, or_false, false_or, or_true, true_or]
        refine ⟨_, _, _, s_chr3 hi, fun c3 => ih (fun k hk => ?_), fun c3 => ?_⟩
        · rcases Nat.lt_or_eq_of_le (Nat.le_of_lt_succ hk) with q | q
          · exact hyes k q
          · rw [q]; exact c3
        · rw [pI_0 (fun h => c3 (h.2.2 i hi))] at hQ; exact hQ
      · refine vc_X8_isWord_s3_28 _ mi ml ⟨_, _, _, s_len3, ?_⟩
        simp (disch := omega) only [Nat.lt_irrefl, nI_ltI, nI_eq, nI_clamp, nI_1, xl_0, xg_0, xe_0, xe_m1, nI_0, xl_1, xl_2, xl_3, xl_4, xl_5, xl_6, xl_7, xl_8, xl_9, xl_10, xl_12, xl_20, xl_30, xl_32, xl_40, xl_41, xl_42, xl_48, xl_57, xl_59, xl_64, xl_97, xl_100, xl_122, xl_126, xl_128, xl_1000, xl_9999, xg_1, xg_2, xg_3, xg_4, xg_5, xg_6, xg_7, xg_8, xg_9, xg_10, xg_12, xg_20, xg_30, xg_32, xg_40, xg_41, xg_42, xg_48, xg_57, xg_59, xg_64, xg_97, xg_100, xg_122, xg_126, xg_128, xg_1000, xg_9999, xe_1, xe_2, xe_3, xe_4, xe_5, xe_6, xe_7, xe_8, xe_9, xe_10, xe_12, xe_20, xe_30, xe_32, xe_40, xe_41, xe_42, xe_48, xe_57, xe_59, xe_64, xe_97, xe_100, xe_122, xe_126, xe_128, xe_1000, xe_9999, true_implies, false_implies, not_true_eq_false, not_false_eq_true, and_true, true_and, forall_const, imp_self, lc_eq, implies_true, vin, Bool.true_eq_false, Bool.false_eq_true, false_and, and_false, or_false, false_or, or_true, true_or]
        rw [pI_1 ⟨c, c2, hyes⟩] at hQ; exact hQ
    · rw [pI_0 (fun h => c2 h.2.1)] at hQ; exact hQ
  · rw [pI_0 (fun h => c h.1)] at hQ; exact hQ
theorem s_len4 : cS (ab_ro L xs) (d + 2) 244 [.ref 1000004] mi ml (some (.int (nI 4))) mi ml := by
  refine ab_sem_q rfl rfl (fun Q hQ => vc_J0_length_8abf5_s4_0 mi ml ⟨0, mi, ml, ab_sem_q rfl rfl (fun Q hQ => vc_J0_coder_7d493_s4_0 mi ml ⟨by decide +kernel, hQ⟩), ?_⟩)
  have e : (Int32.ofNat 4) >>> ((0 : Int32) &&& 31) = nI 4 := by decide +kernel
  rw [e]; exact hQ
theorem s_chr4 {i : Nat} (hi : i < 4) : cS (ab_ro L xs) (d + 4) 245 [.ref 1000004, .int (nI i)] mi ml (some (.int (ab_sb 4 i))) mi ml := by
  have e := sb_c 4 (by decide) i (by omega)
  have e2 := sb_n 4 (by decide) i (by omega)
  have s1 : cS (ab_ro L xs) (d + 3) 249 [.ref 1000104, .int (nI i)] mi ml (some (.int (ab_sb 4 i))) mi ml := by
    refine ab_sem_q rfl rfl (fun Q hQ => vc_J1_charAt_3b067_s4_0 _ mi ml ⟨_, _, s_ckI (n := 4) hi (by decide), ?_⟩)
    rw [nI_clamp (by omega), e]
    exact ⟨in_of hi (by decide), e2, hQ⟩
  exact ab_sem_q rfl rfl (fun Q hQ => vc_J0_charAt_5068e_s4_0 _ mi ml ⟨1, mi, ml, ab_sem_q rfl rfl (fun Q hQ => vc_J0_isLatin1_aae02_s4_0 mi ml hQ), fun q => (by cases q), fun _ => ⟨_, _, _, s1, e2, hQ⟩⟩)
theorem s_wd4 (Z : tOK T) (C : cT T mi) {p : Nat} (hp : p ≤ T.1) (S : TS T p mi) : cS (ab_ro L xs) (d + 5) 86 [.ref 2, .ref 1000004] mi ml (some (.int (pI (wdP T 4 p)))) mi ml := by
  have hn := Z.1
  have hs := tS_le T hp
  have he := tE_le T hp
  refine ab_sem_q rfl rfl (fun Q hQ => vc_X8_isWord_s4_0 mi ml ?_)
  have hk : tK T p < 2 ^ 31 := by have := kd_7 T (tS T p); unfold tK; split <;> omega
  rw [S.1, S.2.1, S.2.2, xe_2 hk]
  refine ⟨fun c => ⟨_, _, _, s_len4, ?_⟩, fun c => ?_⟩
  · have hle : tS T p ≤ tE T p := by
      by_cases q : tS T p < T.1
      · have := tE_gt Z q; omega
      · have k0 : kd T (tS T p) = 0 := kd_0.2 (by omega)
        unfold tK at c; rw [k0] at c; simp at c
    rw [nI_m hle, nI_eq (by omega) (by omega)]
    refine ⟨fun c2 => ?_, fun c2 => ?_⟩
    · refine up0 (n := 4) (F := fun i => (∀ k, k < i → nI (T.2 (tS T p + k)) = ab_sb 4 k) → W_X8_isWord_s4_28 (cs (ab_ro L xs) (d + 4)) (ab_ro L xs) Q (nI i) mi ml) (fun i hi ih hyes => ?_) (fun hyes => ?_) (fun k hk => absurd hk (Nat.not_lt_zero k))
      · refine vc_X8_isWord_s4_28 _ mi ml ⟨_, _, _, s_len4, ?_⟩
        have hlt : tS T p + i < T.1 := by omega
        have e3 := (C.2 _ hlt).1
        rw [S.1, C.1, nI_add]
        simp (disch := omega) only [hi, hlt, e3, nI_ltI, nI_eq, nI_clamp, nI_1, xl_0, xg_0, xe_0, xe_m1, nI_0, xl_1, xl_2, xl_3, xl_4, xl_5, xl_6, xl_7, xl_8, xl_9, xl_10, xl_12, xl_20, xl_30, xl_32, xl_40, xl_41, xl_42, xl_48, xl_57, xl_59, xl_64, xl_97, xl_100, xl_122, xl_126, xl_128, xl_1000, xl_9999, xg_1, xg_2, xg_3, xg_4, xg_5, xg_6, xg_7, xg_8, xg_9, xg_10, xg_12, xg_20, xg_30, xg_32, xg_40, xg_41, xg_42, xg_48, xg_57, xg_59, xg_64, xg_97, xg_100, xg_122, xg_126, xg_128, xg_1000, xg_9999, xe_1, xe_2, xe_3, xe_4, xe_5, xe_6, xe_7, xe_8, xe_9, xe_10, xe_12, xe_20, xe_30, xe_32, xe_40, xe_41, xe_42, xe_48, xe_57, xe_59, xe_64, xe_97, xe_100, xe_122, xe_126, xe_128, xe_1000, xe_9999, true_implies, false_implies, not_true_eq_false, not_false_eq_true, and_true, true_and, forall_const, imp_self, lc_eq, implies_true, vin, Bool.true_eq_false, Bool.false_eq_true, false_and, and_false, or_false, false_or, or_true, true_or]
        refine ⟨_, _, _, s_chr4 hi, fun c3 => ih (fun k hk => ?_), fun c3 => ?_⟩
        · rcases Nat.lt_or_eq_of_le (Nat.le_of_lt_succ hk) with q | q
          · exact hyes k q
          · rw [q]; exact c3
        · rw [pI_0 (fun h => c3 (h.2.2 i hi))] at hQ; exact hQ
      · refine vc_X8_isWord_s4_28 _ mi ml ⟨_, _, _, s_len4, ?_⟩
        simp (disch := omega) only [Nat.lt_irrefl, nI_ltI, nI_eq, nI_clamp, nI_1, xl_0, xg_0, xe_0, xe_m1, nI_0, xl_1, xl_2, xl_3, xl_4, xl_5, xl_6, xl_7, xl_8, xl_9, xl_10, xl_12, xl_20, xl_30, xl_32, xl_40, xl_41, xl_42, xl_48, xl_57, xl_59, xl_64, xl_97, xl_100, xl_122, xl_126, xl_128, xl_1000, xl_9999, xg_1, xg_2, xg_3, xg_4, xg_5, xg_6, xg_7, xg_8, xg_9, xg_10, xg_12, xg_20, xg_30, xg_32, xg_40, xg_41, xg_42, xg_48, xg_57, xg_59, xg_64, xg_97, xg_100, xg_122, xg_126, xg_128, xg_1000, xg_9999, xe_1, xe_2, xe_3, xe_4, xe_5, xe_6, xe_7, xe_8, xe_9, xe_10, xe_12, xe_20, xe_30, xe_32, xe_40, xe_41, xe_42, xe_48, xe_57, xe_59, xe_64, xe_97, xe_100, xe_122, xe_126, xe_128, xe_1000, xe_9999, true_implies, false_implies, not_true_eq_false, not_false_eq_true, and_true, true_and, forall_const, imp_self, lc_eq, implies_true, vin, Bool.true_eq_false, Bool.false_eq_true, false_and, and_false, or_false, false_or, or_true, true_or]
        rw [pI_1 ⟨c, c2, hyes⟩] at hQ; exact hQ
    · rw [pI_0 (fun h => c2 h.2.1)] at hQ; exact hQ
  · rw [pI_0 (fun h => c h.1)] at hQ; exact hQ
theorem s_len5 : cS (ab_ro L xs) (d + 2) 244 [.ref 1000005] mi ml (some (.int (nI 6))) mi ml := by
  refine ab_sem_q rfl rfl (fun Q hQ => vc_J0_length_8abf5_s5_0 mi ml ⟨0, mi, ml, ab_sem_q rfl rfl (fun Q hQ => vc_J0_coder_7d493_s5_0 mi ml ⟨by decide +kernel, hQ⟩), ?_⟩)
  have e : (Int32.ofNat 6) >>> ((0 : Int32) &&& 31) = nI 6 := by decide +kernel
  rw [e]; exact hQ
theorem s_chr5 {i : Nat} (hi : i < 6) : cS (ab_ro L xs) (d + 4) 245 [.ref 1000005, .int (nI i)] mi ml (some (.int (ab_sb 5 i))) mi ml := by
  have e := sb_c 5 (by decide) i (by omega)
  have e2 := sb_n 5 (by decide) i (by omega)
  have s1 : cS (ab_ro L xs) (d + 3) 249 [.ref 1000105, .int (nI i)] mi ml (some (.int (ab_sb 5 i))) mi ml := by
    refine ab_sem_q rfl rfl (fun Q hQ => vc_J1_charAt_3b067_s5_0 _ mi ml ⟨_, _, s_ckI (n := 6) hi (by decide), ?_⟩)
    rw [nI_clamp (by omega), e]
    exact ⟨in_of hi (by decide), e2, hQ⟩
  exact ab_sem_q rfl rfl (fun Q hQ => vc_J0_charAt_5068e_s5_0 _ mi ml ⟨1, mi, ml, ab_sem_q rfl rfl (fun Q hQ => vc_J0_isLatin1_aae02_s5_0 mi ml hQ), fun q => (by cases q), fun _ => ⟨_, _, _, s1, e2, hQ⟩⟩)
theorem s_wd5 (Z : tOK T) (C : cT T mi) {p : Nat} (hp : p ≤ T.1) (S : TS T p mi) : cS (ab_ro L xs) (d + 5) 86 [.ref 2, .ref 1000005] mi ml (some (.int (pI (wdP T 5 p)))) mi ml := by
  have hn := Z.1
  have hs := tS_le T hp
  have he := tE_le T hp
  refine ab_sem_q rfl rfl (fun Q hQ => vc_X8_isWord_s5_0 mi ml ?_)
  have hk : tK T p < 2 ^ 31 := by have := kd_7 T (tS T p); unfold tK; split <;> omega
  rw [S.1, S.2.1, S.2.2, xe_2 hk]
  refine ⟨fun c => ⟨_, _, _, s_len5, ?_⟩, fun c => ?_⟩
  · have hle : tS T p ≤ tE T p := by
      by_cases q : tS T p < T.1
      · have := tE_gt Z q; omega
      · have k0 : kd T (tS T p) = 0 := kd_0.2 (by omega)
        unfold tK at c; rw [k0] at c; simp at c
    rw [nI_m hle, nI_eq (by omega) (by omega)]
    refine ⟨fun c2 => ?_, fun c2 => ?_⟩
    · refine up0 (n := 6) (F := fun i => (∀ k, k < i → nI (T.2 (tS T p + k)) = ab_sb 5 k) → W_X8_isWord_s5_28 (cs (ab_ro L xs) (d + 4)) (ab_ro L xs) Q (nI i) mi ml) (fun i hi ih hyes => ?_) (fun hyes => ?_) (fun k hk => absurd hk (Nat.not_lt_zero k))
      · refine vc_X8_isWord_s5_28 _ mi ml ⟨_, _, _, s_len5, ?_⟩
        have hlt : tS T p + i < T.1 := by omega
        have e3 := (C.2 _ hlt).1
        rw [S.1, C.1, nI_add]
        simp (disch := omega) only [hi, hlt, e3, nI_ltI, nI_eq, nI_clamp, nI_1, xl_0, xg_0, xe_0, xe_m1, nI_0, xl_1, xl_2, xl_3, xl_4, xl_5, xl_6, xl_7, xl_8, xl_9, xl_10, xl_12, xl_20, xl_30, xl_32, xl_40, xl_41, xl_42, xl_48, xl_57, xl_59, xl_64, xl_97, xl_100, xl_122, xl_126, xl_128, xl_1000, xl_9999, xg_1, xg_2, xg_3, xg_4, xg_5, xg_6, xg_7, xg_8, xg_9, xg_10, xg_12, xg_20, xg_30, xg_32, xg_40, xg_41, xg_42, xg_48, xg_57, xg_59, xg_64, xg_97, xg_100, xg_122, xg_126, xg_128, xg_1000, xg_9999, xe_1, xe_2, xe_3, xe_4, xe_5, xe_6, xe_7, xe_8, xe_9, xe_10, xe_12, xe_20, xe_30, xe_32, xe_40, xe_41, xe_42, xe_48, xe_57, xe_59, xe_64, xe_97, xe_100, xe_122, xe_126, xe_128, xe_1000, xe_9999, true_implies, false_implies, not_true_eq_false, not_false_eq_true, and_true, true_and, forall_const, imp_self, lc_eq, implies_true, vin, Bool.true_eq_false, Bool.false_eq_true, false_and, and_false, or_false, false_or, or_true, true_or]
        refine ⟨_, _, _, s_chr5 hi, fun c3 => ih (fun k hk => ?_), fun c3 => ?_⟩
        · rcases Nat.lt_or_eq_of_le (Nat.le_of_lt_succ hk) with q | q
          · exact hyes k q
          · rw [q]; exact c3
        · rw [pI_0 (fun h => c3 (h.2.2 i hi))] at hQ; exact hQ
      · refine vc_X8_isWord_s5_28 _ mi ml ⟨_, _, _, s_len5, ?_⟩
        simp (disch := omega) only [Nat.lt_irrefl, nI_ltI, nI_eq, nI_clamp, nI_1, xl_0, xg_0, xe_0, xe_m1, nI_0, xl_1, xl_2, xl_3, xl_4, xl_5, xl_6, xl_7, xl_8, xl_9, xl_10, xl_12, xl_20, xl_30, xl_32, xl_40, xl_41, xl_42, xl_48, xl_57, xl_59, xl_64, xl_97, xl_100, xl_122, xl_126, xl_128, xl_1000, xl_9999, xg_1, xg_2, xg_3, xg_4, xg_5, xg_6, xg_7, xg_8, xg_9, xg_10, xg_12, xg_20, xg_30, xg_32, xg_40, xg_41, xg_42, xg_48, xg_57, xg_59, xg_64, xg_97, xg_100, xg_122, xg_126, xg_128, xg_1000, xg_9999, xe_1, xe_2, xe_3, xe_4, xe_5, xe_6, xe_7, xe_8, xe_9, xe_10, xe_12, xe_20, xe_30, xe_32, xe_40, xe_41, xe_42, xe_48, xe_57, xe_59, xe_64, xe_97, xe_100, xe_122, xe_126, xe_128, xe_1000, xe_9999, true_implies, false_implies, not_true_eq_false, not_false_eq_true, and_true, true_and, forall_const, imp_self, lc_eq, implies_true, vin, Bool.true_eq_false, Bool.false_eq_true, false_and, and_false, or_false, false_or, or_true, true_or]
        rw [pI_1 ⟨c, c2, hyes⟩] at hQ; exact hQ
    · rw [pI_0 (fun h => c2 h.2.1)] at hQ; exact hQ
  · rw [pI_0 (fun h => c h.1)] at hQ; exact hQ
theorem s_len6 : cS (ab_ro L xs) (d + 2) 244 [.ref 1000006] mi ml (some (.int (nI 3))) mi ml := by
  refine ab_sem_q rfl rfl (fun Q hQ => vc_J0_length_8abf5_s6_0 mi ml ⟨0, mi, ml, ab_sem_q rfl rfl (fun Q hQ => vc_J0_coder_7d493_s6_0 mi ml ⟨by decide +kernel, hQ⟩), ?_⟩)
  have e : (Int32.ofNat 3) >>> ((0 : Int32) &&& 31) = nI 3 := by decide +kernel
  rw [e]; exact hQ
theorem s_chr6 {i : Nat} (hi : i < 3) : cS (ab_ro L xs) (d + 4) 245 [.ref 1000006, .int (nI i)] mi ml (some (.int (ab_sb 6 i))) mi ml := by
  have e := sb_c 6 (by decide) i (by omega)
  have e2 := sb_n 6 (by decide) i (by omega)
  have s1 : cS (ab_ro L xs) (d + 3) 249 [.ref 1000106, .int (nI i)] mi ml (some (.int (ab_sb 6 i))) mi ml := by
    refine ab_sem_q rfl rfl (fun Q hQ => vc_J1_charAt_3b067_s6_0 _ mi ml ⟨_, _, s_ckI (n := 3) hi (by decide), ?_⟩)
    rw [nI_clamp (by omega), e]
    exact ⟨in_of hi (by decide), e2, hQ⟩
  exact ab_sem_q rfl rfl (fun Q hQ => vc_J0_charAt_5068e_s6_0 _ mi ml ⟨1, mi, ml, ab_sem_q rfl rfl (fun Q hQ => vc_J0_isLatin1_aae02_s6_0 mi ml hQ), fun q => (by cases q), fun _ => ⟨_, _, _, s1, e2, hQ⟩⟩)
theorem s_wd6 (Z : tOK T) (C : cT T mi) {p : Nat} (hp : p ≤ T.1) (S : TS T p mi) : cS (ab_ro L xs) (d + 5) 86 [.ref 2, .ref 1000006] mi ml (some (.int (pI (wdP T 6 p)))) mi ml := by
  have hn := Z.1
  have hs := tS_le T hp
  have he := tE_le T hp
  refine ab_sem_q rfl rfl (fun Q hQ => vc_X8_isWord_s6_0 mi ml ?_)
  have hk : tK T p < 2 ^ 31 := by have := kd_7 T (tS T p); unfold tK; split <;> omega
  rw [S.1, S.2.1, S.2.2, xe_2 hk]
  refine ⟨fun c => ⟨_, _, _, s_len6, ?_⟩, fun c => ?_⟩
  · have hle : tS T p ≤ tE T p := by
      by_cases q : tS T p < T.1
      · have := tE_gt Z q; omega
      · have k0 : kd T (tS T p) = 0 := kd_0.2 (by omega)
        unfold tK at c; rw [k0] at c; simp at c
    rw [nI_m hle, nI_eq (by omega) (by omega)]
    refine ⟨fun c2 => ?_, fun c2 => ?_⟩
    · refine up0 (n := 3) (F := fun i => (∀ k, k < i → nI (T.2 (tS T p + k)) = ab_sb 6 k) → W_X8_isWord_s6_28 (cs (ab_ro L xs) (d + 4)) (ab_ro L xs) Q (nI i) mi ml) (fun i hi ih hyes => ?_) (fun hyes => ?_) (fun k hk => absurd hk (Nat.not_lt_zero k))
      · refine vc_X8_isWord_s6_28 _ mi ml ⟨_, _, _, s_len6, ?_⟩
        have hlt : tS T p + i < T.1 := by omega
        have e3 := (C.2 _ hlt).1
        rw [S.1, C.1, nI_add]
        simp (disch := omega) only [hi, hlt, e3, nI_ltI, nI_eq, nI_clamp, nI_1, xl_0, xg_0, xe_0, xe_m1, nI_0, xl_1, xl_2, xl_3, xl_4, xl_5, xl_6, xl_7, xl_8, xl_9, xl_10, xl_12, xl_20, xl_30, xl_32, xl_40, xl_41, xl_42, xl_48, xl_57, xl_59, xl_64, xl_97, xl_100, xl_122, xl_126, xl_128, xl_1000, xl_9999, xg_1, xg_2, xg_3, xg_4, xg_5, xg_6, xg_7, xg_8, xg_9, xg_10, xg_12, xg_20, xg_30, xg_32, xg_40, xg_41, xg_42, xg_48, xg_57, xg_59, xg_64, xg_97, xg_100, xg_122, xg_126, xg_128, xg_1000, xg_9999, xe_1, xe_2, xe_3, xe_4, xe_5, xe_6, xe_7, xe_8, xe_9, xe_10, xe_12, xe_20, xe_30, xe_32, xe_40, xe_41, xe_42, xe_48, xe_57, xe_59, xe_64, xe_97, xe_100, xe_122, xe_126, xe_128, xe_1000, xe_9999, true_implies, false_implies, not_true_eq_false, not_false_eq_true, and_true, true_and, forall_const, imp_self, lc_eq, implies_true, vin, Bool.true_eq_false, Bool.false_eq_true, false_and, and_false, or_false, false_or, or_true, true_or]
        refine ⟨_, _, _, s_chr6 hi, fun c3 => ih (fun k hk => ?_), fun c3 => ?_⟩
        · rcases Nat.lt_or_eq_of_le (Nat.le_of_lt_succ hk) with q | q
          · exact hyes k q
          · rw [q]; exact c3
        · rw [pI_0 (fun h => c3 (h.2.2 i hi))] at hQ; exact hQ
      · refine vc_X8_isWord_s6_28 _ mi ml ⟨_, _, _, s_len6, ?_⟩
        simp (disch := omega) only [Nat.lt_irrefl, nI_ltI, nI_eq, nI_clamp, nI_1, xl_0, xg_0, xe_0, xe_m1, nI_0, xl_1, xl_2, xl_3, xl_4, xl_5, xl_6, xl_7, xl_8, xl_9, xl_10, xl_12, xl_20, xl_30, xl_32, xl_40, xl_41, xl_42, xl_48, xl_57, xl_59, xl_64, xl_97, xl_100, xl_122, xl_126, xl_128, xl_1000, xl_9999, xg_1, xg_2, xg_3, xg_4, xg_5, xg_6, xg_7, xg_8, xg_9, xg_10, xg_12, xg_20, xg_30, xg_32, xg_40, xg_41, xg_42, xg_48, xg_57, xg_59, xg_64, xg_97, xg_100, xg_122, xg_126, xg_128, xg_1000, xg_9999, xe_1, xe_2, xe_3, xe_4, xe_5, xe_6, xe_7, xe_8, xe_9, xe_10, xe_12, xe_20, xe_30, xe_32, xe_40, xe_41, xe_42, xe_48, xe_57, xe_59, xe_64, xe_97, xe_100, xe_122, xe_126, xe_128, xe_1000, xe_9999, true_implies, false_implies, not_true_eq_false, not_false_eq_true, and_true, true_and, forall_const, imp_self, lc_eq, implies_true, vin, Bool.true_eq_false, Bool.false_eq_true, false_and, and_false, or_false, false_or, or_true, true_or]
        rw [pI_1 ⟨c, c2, hyes⟩] at hQ; exact hQ
    · rw [pI_0 (fun h => c2 h.2.1)] at hQ; exact hQ
  · rw [pI_0 (fun h => c h.1)] at hQ; exact hQ
theorem s_len7 : cS (ab_ro L xs) (d + 2) 244 [.ref 1000007] mi ml (some (.int (nI 2))) mi ml := by
  refine ab_sem_q rfl rfl (fun Q hQ => vc_J0_length_8abf5_s7_0 mi ml ⟨0, mi, ml, ab_sem_q rfl rfl (fun Q hQ => vc_J0_coder_7d493_s7_0 mi ml ⟨by decide +kernel, hQ⟩), ?_⟩)
  have e : (Int32.ofNat 2) >>> ((0 : Int32) &&& 31) = nI 2 := by decide +kernel
  rw [e]; exact hQ
theorem s_chr7 {i : Nat} (hi : i < 2) : cS (ab_ro L xs) (d + 4) 245 [.ref 1000007, .int (nI i)] mi ml (some (.int (ab_sb 7 i))) mi ml := by
  have e := sb_c 7 (by decide) i (by omega)
  have e2 := sb_n 7 (by decide) i (by omega)
  have s1 : cS (ab_ro L xs) (d + 3) 249 [.ref 1000107, .int (nI i)] mi ml (some (.int (ab_sb 7 i))) mi ml := by
    refine ab_sem_q rfl rfl (fun Q hQ => vc_J1_charAt_3b067_s7_0 _ mi ml ⟨_, _, s_ckI (n := 2) hi (by decide), ?_⟩)
    rw [nI_clamp (by omega), e]
    exact ⟨in_of hi (by decide), e2, hQ⟩
  exact ab_sem_q rfl rfl (fun Q hQ => vc_J0_charAt_5068e_s7_0 _ mi ml ⟨1, mi, ml, ab_sem_q rfl rfl (fun Q hQ => vc_J0_isLatin1_aae02_s7_0 mi ml hQ), fun q => (by cases q), fun _ => ⟨_, _, _, s1, e2, hQ⟩⟩)
theorem s_wd7 (Z : tOK T) (C : cT T mi) {p : Nat} (hp : p ≤ T.1) (S : TS T p mi) : cS (ab_ro L xs) (d + 5) 86 [.ref 2, .ref 1000007] mi ml (some (.int (pI (wdP T 7 p)))) mi ml := by
  have hn := Z.1
  have hs := tS_le T hp
  have he := tE_le T hp
  refine ab_sem_q rfl rfl (fun Q hQ => vc_X8_isWord_s7_0 mi ml ?_)
  have hk : tK T p < 2 ^ 31 := by have := kd_7 T (tS T p); unfold tK; split <;> omega
  rw [S.1, S.2.1, S.2.2, xe_2 hk]
  refine ⟨fun c => ⟨_, _, _, s_len7, ?_⟩, fun c => ?_⟩
  · have hle : tS T p ≤ tE T p := by
      by_cases q : tS T p < T.1
      · have := tE_gt Z q; omega
      · have k0 : kd T (tS T p) = 0 := kd_0.2 (by omega)
        unfold tK at c; rw [k0] at c; simp at c
    rw [nI_m hle, nI_eq (by omega) (by omega)]
    refine ⟨fun c2 => ?_, fun c2 => ?_⟩
    · refine up0 (n := 2) (F := fun i => (∀ k, k < i → nI (T.2 (tS T p + k)) = ab_sb 7 k) → W_X8_isWord_s7_28 (cs (ab_ro L xs) (d + 4)) (ab_ro L xs) Q (nI i) mi ml) (fun i hi ih hyes => ?_) (fun hyes => ?_) (fun k hk => absurd hk (Nat.not_lt_zero k))
      · refine vc_X8_isWord_s7_28 _ mi ml ⟨_, _, _, s_len7, ?_⟩
        have hlt : tS T p + i < T.1 := by omega
        have e3 := (C.2 _ hlt).1
        rw [S.1, C.1, nI_add]
        simp (disch := omega) only [hi, hlt, e3, nI_ltI, nI_eq, nI_clamp, nI_1, xl_0, xg_0, xe_0, xe_m1, nI_0, xl_1, xl_2, xl_3, xl_4, xl_5, xl_6, xl_7, xl_8, xl_9, xl_10, xl_12, xl_20, xl_30, xl_32, xl_40, xl_41, xl_42, xl_48, xl_57, xl_59, xl_64, xl_97, xl_100, xl_122, xl_126, xl_128, xl_1000, xl_9999, xg_1, xg_2, xg_3, xg_4, xg_5, xg_6, xg_7, xg_8, xg_9, xg_10, xg_12, xg_20, xg_30, xg_32, xg_40, xg_41, xg_42, xg_48, xg_57, xg_59, xg_64, xg_97, xg_100, xg_122, xg_126, xg_128, xg_1000, xg_9999, xe_1, xe_2, xe_3, xe_4, xe_5, xe_6, xe_7, xe_8, xe_9, xe_10, xe_12, xe_20, xe_30, xe_32, xe_40, xe_41, xe_42, xe_48, xe_57, xe_59, xe_64, xe_97, xe_100, xe_122, xe_126, xe_128, xe_1000, xe_9999, true_implies, false_implies, not_true_eq_false, not_false_eq_true, and_true, true_and, forall_const, imp_self, lc_eq, implies_true, vin, Bool.true_eq_false, Bool.false_eq_true, false_and, and_false, or_false, false_or, or_true, true_or]
        refine ⟨_, _, _, s_chr7 hi, fun c3 => ih (fun k hk => ?_), fun c3 => ?_⟩
        · rcases Nat.lt_or_eq_of_le (Nat.le_of_lt_succ hk) with q | q
          · exact hyes k q
          · rw [q]; exact c3
        · rw [pI_0 (fun h => c3 (h.2.2 i hi))] at hQ; exact hQ
      · refine vc_X8_isWord_s7_28 _ mi ml ⟨_, _, _, s_len7, ?_⟩
        simp (disch := omega) only [Nat.lt_irrefl, nI_ltI, nI_eq, nI_clamp, nI_1, xl_0, xg_0, xe_0, xe_m1, nI_0, xl_1, xl_2, xl_3, xl_4, xl_5, xl_6, xl_7, xl_8, xl_9, xl_10, xl_12, xl_20, xl_30, xl_32, xl_40, xl_41, xl_42, xl_48, xl_57, xl_59, xl_64, xl_97, xl_100, xl_122, xl_126, xl_128, xl_1000, xl_9999, xg_1, xg_2, xg_3, xg_4, xg_5, xg_6, xg_7, xg_8, xg_9, xg_10, xg_12, xg_20, xg_30, xg_32, xg_40, xg_41, xg_42, xg_48, xg_57, xg_59, xg_64, xg_97, xg_100, xg_122, xg_126, xg_128, xg_1000, xg_9999, xe_1, xe_2, xe_3, xe_4, xe_5, xe_6, xe_7, xe_8, xe_9, xe_10, xe_12, xe_20, xe_30, xe_32, xe_40, xe_41, xe_42, xe_48, xe_57, xe_59, xe_64, xe_97, xe_100, xe_122, xe_126, xe_128, xe_1000, xe_9999, true_implies, false_implies, not_true_eq_false, not_false_eq_true, and_true, true_and, forall_const, imp_self, lc_eq, implies_true, vin, Bool.true_eq_false, Bool.false_eq_true, false_and, and_false, or_false, false_or, or_true, true_or]
        rw [pI_1 ⟨c, c2, hyes⟩] at hQ; exact hQ
    · rw [pI_0 (fun h => c2 h.2.1)] at hQ; exact hQ
  · rw [pI_0 (fun h => c h.1)] at hQ; exact hQ
theorem s_len8 : cS (ab_ro L xs) (d + 2) 244 [.ref 1000008] mi ml (some (.int (nI 3))) mi ml := by
  refine ab_sem_q rfl rfl (fun Q hQ => vc_J0_length_8abf5_s8_0 mi ml ⟨0, mi, ml, ab_sem_q rfl rfl (fun Q hQ => vc_J0_coder_7d493_s8_0 mi ml ⟨by decide +kernel, hQ⟩), ?_⟩)
  have e : (Int32.ofNat 3) >>> ((0 : Int32) &&& 31) = nI 3 := by decide +kernel
  rw [e]; exact hQ
theorem s_chr8 {i : Nat} (hi : i < 3) : cS (ab_ro L xs) (d + 4) 245 [.ref 1000008, .int (nI i)] mi ml (some (.int (ab_sb 8 i))) mi ml := by
  have e := sb_c 8 (by decide) i (by omega)
  have e2 := sb_n 8 (by decide) i (by omega)
  have s1 : cS (ab_ro L xs) (d + 3) 249 [.ref 1000108, .int (nI i)] mi ml (some (.int (ab_sb 8 i))) mi ml := by
    refine ab_sem_q rfl rfl (fun Q hQ => vc_J1_charAt_3b067_s8_0 _ mi ml ⟨_, _, s_ckI (n := 3) hi (by decide), ?_⟩)
    rw [nI_clamp (by omega), e]
    exact ⟨in_of hi (by decide), e2, hQ⟩
  exact ab_sem_q rfl rfl (fun Q hQ => vc_J0_charAt_5068e_s8_0 _ mi ml ⟨1, mi, ml, ab_sem_q rfl rfl (fun Q hQ => vc_J0_isLatin1_aae02_s8_0 mi ml hQ), fun q => (by cases q), fun _ => ⟨_, _, _, s1, e2, hQ⟩⟩)
theorem s_wd8 (Z : tOK T) (C : cT T mi) {p : Nat} (hp : p ≤ T.1) (S : TS T p mi) : cS (ab_ro L xs) (d + 5) 86 [.ref 2, .ref 1000008] mi ml (some (.int (pI (wdP T 8 p)))) mi ml := by
  have hn := Z.1
  have hs := tS_le T hp
  have he := tE_le T hp
  refine ab_sem_q rfl rfl (fun Q hQ => vc_X8_isWord_s8_0 mi ml ?_)
  have hk : tK T p < 2 ^ 31 := by have := kd_7 T (tS T p); unfold tK; split <;> omega
  rw [S.1, S.2.1, S.2.2, xe_2 hk]
  refine ⟨fun c => ⟨_, _, _, s_len8, ?_⟩, fun c => ?_⟩
  · have hle : tS T p ≤ tE T p := by
      by_cases q : tS T p < T.1
      · have := tE_gt Z q; omega
      · have k0 : kd T (tS T p) = 0 := kd_0.2 (by omega)
        unfold tK at c; rw [k0] at c; simp at c
    rw [nI_m hle, nI_eq (by omega) (by omega)]
    refine ⟨fun c2 => ?_, fun c2 => ?_⟩
    · refine up0 (n := 3) (F := fun i => (∀ k, k < i → nI (T.2 (tS T p + k)) = ab_sb 8 k) → W_X8_isWord_s8_28 (cs (ab_ro L xs) (d + 4)) (ab_ro L xs) Q (nI i) mi ml) (fun i hi ih hyes => ?_) (fun hyes => ?_) (fun k hk => absurd hk (Nat.not_lt_zero k))
      · refine vc_X8_isWord_s8_28 _ mi ml ⟨_, _, _, s_len8, ?_⟩
        have hlt : tS T p + i < T.1 := by omega
        have e3 := (C.2 _ hlt).1
        rw [S.1, C.1, nI_add]
        simp (disch := omega) only [hi, hlt, e3, nI_ltI, nI_eq, nI_clamp, nI_1, xl_0, xg_0, xe_0, xe_m1, nI_0, xl_1, xl_2, xl_3, xl_4, xl_5, xl_6, xl_7, xl_8, xl_9, xl_10, xl_12, xl_20, xl_30, xl_32, xl_40, xl_41, xl_42, xl_48, xl_57, xl_59, xl_64, xl_97, xl_100, xl_122, xl_126, xl_128, xl_1000, xl_9999, xg_1, xg_2, xg_3, xg_4, xg_5, xg_6, xg_7, xg_8, xg_9, xg_10, xg_12, xg_20, xg_30, xg_32, xg_40, xg_41, xg_42, xg_48, xg_57, xg_59, xg_64, xg_97, xg_100, xg_122, xg_126, xg_128, xg_1000, xg_9999, xe_1, xe_2, xe_3, xe_4, xe_5, xe_6, xe_7, xe_8, xe_9, xe_10, xe_12, xe_20, xe_30, xe_32, xe_40, xe_41, xe_42, xe_48, xe_57, xe_59, xe_64, xe_97, xe_100, xe_122, xe_126, xe_128, xe_1000, xe_9999, true_implies, false_implies, not_true_eq_false, not_false_eq_true, and_true, true_and, forall_const, imp_self, lc_eq, implies_true, vin, Bool.true_eq_false, Bool.false_eq_true, false_and, and_false, or_false, false_or, or_true, true_or]
        refine ⟨_, _, _, s_chr8 hi, fun c3 => ih (fun k hk => ?_), fun c3 => ?_⟩
        · rcases Nat.lt_or_eq_of_le (Nat.le_of_lt_succ hk) with q | q
          · exact hyes k q
          · rw [q]; exact c3
        · rw [pI_0 (fun h => c3 (h.2.2 i hi))] at hQ; exact hQ
      · refine vc_X8_isWord_s8_28 _ mi ml ⟨_, _, _, s_len8, ?_⟩
        simp (disch := omega) only [Nat.lt_irrefl, nI_ltI, nI_eq, nI_clamp, nI_1, xl_0, xg_0, xe_0, xe_m1, nI_0, xl_1, xl_2, xl_3, xl_4, xl_5, xl_6, xl_7, xl_8, xl_9, xl_10, xl_12, xl_20, xl_30, xl_32, xl_40, xl_41, xl_42, xl_48, xl_57, xl_59, xl_64, xl_97, xl_100, xl_122, xl_126, xl_128, xl_1000, xl_9999, xg_1, xg_2, xg_3, xg_4, xg_5, xg_6, xg_7, xg_8, xg_9, xg_10, xg_12, xg_20, xg_30, xg_32, xg_40, xg_41, xg_42, xg_48, xg_57, xg_59, xg_64, xg_97, xg_100, xg_122, xg_126, xg_128, xg_1000, xg_9999, xe_1, xe_2, xe_3, xe_4, xe_5, xe_6, xe_7, xe_8, xe_9, xe_10, xe_12, xe_20, xe_30, xe_32, xe_40, xe_41, xe_42, xe_48, xe_57, xe_59, xe_64, xe_97, xe_100, xe_122, xe_126, xe_128, xe_1000, xe_9999, true_implies, false_implies, not_true_eq_false, not_false_eq_true, and_true, true_and, forall_const, imp_self, lc_eq, implies_true, vin, Bool.true_eq_false, Bool.false_eq_true, false_and, and_false, or_false, false_or, or_true, true_or]
        rw [pI_1 ⟨c, c2, hyes⟩] at hQ; exact hQ
    · rw [pI_0 (fun h => c2 h.2.1)] at hQ; exact hQ
  · rw [pI_0 (fun h => c h.1)] at hQ; exact hQ
theorem s_len9 : cS (ab_ro L xs) (d + 2) 244 [.ref 1000009] mi ml (some (.int (nI 4))) mi ml := by
  refine ab_sem_q rfl rfl (fun Q hQ => vc_J0_length_8abf5_s9_0 mi ml ⟨0, mi, ml, ab_sem_q rfl rfl (fun Q hQ => vc_J0_coder_7d493_s9_0 mi ml ⟨by decide +kernel, hQ⟩), ?_⟩)
  have e : (Int32.ofNat 4) >>> ((0 : Int32) &&& 31) = nI 4 := by decide +kernel
  rw [e]; exact hQ
theorem s_chr9 {i : Nat} (hi : i < 4) : cS (ab_ro L xs) (d + 4) 245 [.ref 1000009, .int (nI i)] mi ml (some (.int (ab_sb 9 i))) mi ml := by
  have e := sb_c 9 (by decide) i (by omega)
  have e2 := sb_n 9 (by decide) i (by omega)
  have s1 : cS (ab_ro L xs) (d + 3) 249 [.ref 1000109, .int (nI i)] mi ml (some (.int (ab_sb 9 i))) mi ml := by
    refine ab_sem_q rfl rfl (fun Q hQ => vc_J1_charAt_3b067_s9_0 _ mi ml ⟨_, _, s_ckI (n := 4) hi (by decide), ?_⟩)
    rw [nI_clamp (by omega), e]
    exact ⟨in_of hi (by decide), e2, hQ⟩
  exact ab_sem_q rfl rfl (fun Q hQ => vc_J0_charAt_5068e_s9_0 _ mi ml ⟨1, mi, ml, ab_sem_q rfl rfl (fun Q hQ => vc_J0_isLatin1_aae02_s9_0 mi ml hQ), fun q => (by cases q), fun _ => ⟨_, _, _, s1, e2, hQ⟩⟩)
theorem s_wd9 (Z : tOK T) (C : cT T mi) {p : Nat} (hp : p ≤ T.1) (S : TS T p mi) : cS (ab_ro L xs) (d + 5) 86 [.ref 2, .ref 1000009] mi ml (some (.int (pI (wdP T 9 p)))) mi ml := by
  have hn := Z.1
  have hs := tS_le T hp
  have he := tE_le T hp
  refine ab_sem_q rfl rfl (fun Q hQ => vc_X8_isWord_s9_0 mi ml ?_)
  have hk : tK T p < 2 ^ 31 := by have := kd_7 T (tS T p); unfold tK; split <;> omega
  rw [S.1, S.2.1, S.2.2, xe_2 hk]
  refine ⟨fun c => ⟨_, _, _, s_len9, ?_⟩, fun c => ?_⟩
  · have hle : tS T p ≤ tE T p := by
      by_cases q : tS T p < T.1
      · have := tE_gt Z q; omega
      · have k0 : kd T (tS T p) = 0 := kd_0.2 (by omega)
        unfold tK at c; rw [k0] at c; simp at c
    rw [nI_m hle, nI_eq (by omega) (by omega)]
    refine ⟨fun c2 => ?_, fun c2 => ?_⟩
    · refine up0 (n := 4) (F := fun i => (∀ k, k < i → nI (T.2 (tS T p + k)) = ab_sb 9 k) → W_X8_isWord_s9_28 (cs (ab_ro L xs) (d + 4)) (ab_ro L xs) Q (nI i) mi ml) (fun i hi ih hyes => ?_) (fun hyes => ?_) (fun k hk => absurd hk (Nat.not_lt_zero k))
      · refine vc_X8_isWord_s9_28 _ mi ml ⟨_, _, _, s_len9, ?_⟩
        have hlt : tS T p + i < T.1 := by omega
        have e3 := (C.2 _ hlt).1
        rw [S.1, C.1, nI_add]
        simp (disch := omega) only [hi, hlt, e3, nI_ltI, nI_eq, nI_clamp, nI_1, xl_0, xg_0, xe_0, xe_m1, nI_0, xl_1, xl_2, xl_3, xl_4, xl_5, xl_6, xl_7, xl_8, xl_9, xl_10, xl_12, xl_20, xl_30, xl_32, xl_40, xl_41, xl_42, xl_48, xl_57, xl_59, xl_64, xl_97, xl_100, xl_122, xl_126, xl_128, xl_1000, xl_9999, xg_1, xg_2, xg_3, xg_4, xg_5, xg_6, xg_7, xg_8, xg_9, xg_10, xg_12, xg_20, xg_30, xg_32, xg_40, xg_41, xg_42, xg_48, xg_57, xg_59, xg_64, xg_97, xg_100, xg_122, xg_126, xg_128, xg_1000, xg_9999, xe_1, xe_2, xe_3, xe_4, xe_5, xe_6, xe_7, xe_8, xe_9, xe_10, xe_12, xe_20, xe_30, xe_32, xe_40, xe_41, xe_42, xe_48, xe_57, xe_59, xe_64, xe_97, xe_100, xe_122, xe_126, xe_128, xe_1000, xe_9999, true_implies, false_implies, not_true_eq_false, not_false_eq_true, and_true, true_and, forall_const, imp_self, lc_eq, implies_true, vin, Bool.true_eq_false, Bool.false_eq_true, false_and, and_false, or_false, false_or, or_true, true_or]
        refine ⟨_, _, _, s_chr9 hi, fun c3 => ih (fun k hk => ?_), fun c3 => ?_⟩
        · rcases Nat.lt_or_eq_of_le (Nat.le_of_lt_succ hk) with q | q
          · exact hyes k q
          · rw [q]; exact c3
        · rw [pI_0 (fun h => c3 (h.2.2 i hi))] at hQ; exact hQ
      · refine vc_X8_isWord_s9_28 _ mi ml ⟨_, _, _, s_len9, ?_⟩
        simp (disch := omega) only [Nat.lt_irrefl, nI_ltI, nI_eq, nI_clamp, nI_1, xl_0, xg_0, xe_0, xe_m1, nI_0, xl_1, xl_2, xl_3, xl_4, xl_5, xl_6, xl_7, xl_8, xl_9, xl_10, xl_12, xl_20, xl_30, xl_32, xl_40, xl_41, xl_42, xl_48, xl_57, xl_59, xl_64, xl_97, xl_100, xl_122, xl_126, xl_128, xl_1000, xl_9999, xg_1, xg_2, xg_3, xg_4, xg_5, xg_6, xg_7, xg_8, xg_9, xg_10, xg_12, xg_20, xg_30, xg_32, xg_40, xg_41, xg_42, xg_48, xg_57, xg_59, xg_64, xg_97, xg_100, xg_122, xg_126, xg_128, xg_1000, xg_9999, xe_1, xe_2, xe_3, xe_4, xe_5, xe_6, xe_7, xe_8, xe_9, xe_10, xe_12, xe_20, xe_30, xe_32, xe_40, xe_41, xe_42, xe_48, xe_57, xe_59, xe_64, xe_97, xe_100, xe_122, xe_126, xe_128, xe_1000, xe_9999, true_implies, false_implies, not_true_eq_false, not_false_eq_true, and_true, true_and, forall_const, imp_self, lc_eq, implies_true, vin, Bool.true_eq_false, Bool.false_eq_true, false_and, and_false, or_false, false_or, or_true, true_or]
        rw [pI_1 ⟨c, c2, hyes⟩] at hQ; exact hQ
    · rw [pI_0 (fun h => c2 h.2.1)] at hQ; exact hQ
  · rw [pI_0 (fun h => c h.1)] at hQ; exact hQ
theorem s_len10 : cS (ab_ro L xs) (d + 2) 244 [.ref 1000010] mi ml (some (.int (nI 5))) mi ml := by
  refine ab_sem_q rfl rfl (fun Q hQ => vc_J0_length_8abf5_s10_0 mi ml ⟨0, mi, ml, ab_sem_q rfl rfl (fun Q hQ => vc_J0_coder_7d493_s10_0 mi ml ⟨by decide +kernel, hQ⟩), ?_⟩)
  have e : (Int32.ofNat 5) >>> ((0 : Int32) &&& 31) = nI 5 := by decide +kernel
  rw [e]; exact hQ
theorem s_chr10 {i : Nat} (hi : i < 5) : cS (ab_ro L xs) (d + 4) 245 [.ref 1000010, .int (nI i)] mi ml (some (.int (ab_sb 10 i))) mi ml := by
  have e := sb_c 10 (by decide) i (by omega)
  have e2 := sb_n 10 (by decide) i (by omega)
  have s1 : cS (ab_ro L xs) (d + 3) 249 [.ref 1000110, .int (nI i)] mi ml (some (.int (ab_sb 10 i))) mi ml := by
    refine ab_sem_q rfl rfl (fun Q hQ => vc_J1_charAt_3b067_s10_0 _ mi ml ⟨_, _, s_ckI (n := 5) hi (by decide), ?_⟩)
    rw [nI_clamp (by omega), e]
    exact ⟨in_of hi (by decide), e2, hQ⟩
  exact ab_sem_q rfl rfl (fun Q hQ => vc_J0_charAt_5068e_s10_0 _ mi ml ⟨1, mi, ml, ab_sem_q rfl rfl (fun Q hQ => vc_J0_isLatin1_aae02_s10_0 mi ml hQ), fun q => (by cases q), fun _ => ⟨_, _, _, s1, e2, hQ⟩⟩)
theorem s_wd10 (Z : tOK T) (C : cT T mi) {p : Nat} (hp : p ≤ T.1) (S : TS T p mi) : cS (ab_ro L xs) (d + 5) 86 [.ref 2, .ref 1000010] mi ml (some (.int (pI (wdP T 10 p)))) mi ml := by
  have hn := Z.1
  have hs := tS_le T hp
  have he := tE_le T hp
  refine ab_sem_q rfl rfl (fun Q hQ => vc_X8_isWord_s10_0 mi ml ?_)
  have hk : tK T p < 2 ^ 31 := by have := kd_7 T (tS T p); unfold tK; split <;> omega
  rw [S.1, S.2.1, S.2.2, xe_2 hk]
  refine ⟨fun c => ⟨_, _, _, s_len10, ?_⟩, fun c => ?_⟩
  · have hle : tS T p ≤ tE T p := by
      by_cases q : tS T p < T.1
      · have := tE_gt Z q; omega
      · have k0 : kd T (tS T p) = 0 := kd_0.2 (by omega)
        unfold tK at c; rw [k0] at c; simp at c
    rw [nI_m hle, nI_eq (by omega) (by omega)]
    refine ⟨fun c2 => ?_, fun c2 => ?_⟩
    · refine up0 (n := 5) (F := fun i => (∀ k, k < i → nI (T.2 (tS T p + k)) = ab_sb 10 k) → W_X8_isWord_s10_28 (cs (ab_ro L xs) (d + 4)) (ab_ro L xs) Q (nI i) mi ml) (fun i hi ih hyes => ?_) (fun hyes => ?_) (fun k hk => absurd hk (Nat.not_lt_zero k))
      · refine vc_X8_isWord_s10_28 _ mi ml ⟨_, _, _, s_len10, ?_⟩
        have hlt : tS T p + i < T.1 := by omega
        have e3 := (C.2 _ hlt).1
        rw [S.1, C.1, nI_add]
        simp (disch := omega) only [hi, hlt, e3, nI_ltI, nI_eq, nI_clamp, nI_1, xl_0, xg_0, xe_0, xe_m1, nI_0, xl_1, xl_2, xl_3, xl_4, xl_5, xl_6, xl_7, xl_8, xl_9, xl_10, xl_12, xl_20, xl_30, xl_32, xl_40, xl_41, xl_42, xl_48, xl_57, xl_59, xl_64, xl_97, xl_100, xl_122, xl_126, xl_128, xl_1000, xl_9999, xg_1, xg_2, xg_3, xg_4, xg_5, xg_6, xg_7, xg_8, xg_9, xg_10, xg_12, xg_20, xg_30, xg_32, xg_40, xg_41, xg_42, xg_48, xg_57, xg_59, xg_64, xg_97, xg_100, xg_122, xg_126, xg_128, xg_1000, xg_9999, xe_1, xe_2, xe_3, xe_4, xe_5, xe_6, xe_7, xe_8, xe_9, xe_10, xe_12, xe_20, xe_30, xe_32, xe_40, xe_41, xe_42, xe_48, xe_57, xe_59, xe_64, xe_97, xe_100, xe_122, xe_126, xe_128, xe_1000, xe_9999, true_implies, false_implies, not_true_eq_false, not_false_eq_true, and_true, true_and, forall_const, imp_self, lc_eq, implies_true, vin, Bool.true_eq_false, Bool.false_eq_true, false_and, and_false, or_false, false_or, or_true, true_or]
        refine ⟨_, _, _, s_chr10 hi, fun c3 => ih (fun k hk => ?_), fun c3 => ?_⟩
        · rcases Nat.lt_or_eq_of_le (Nat.le_of_lt_succ hk) with q | q
          · exact hyes k q
          · rw [q]; exact c3
        · rw [pI_0 (fun h => c3 (h.2.2 i hi))] at hQ; exact hQ
      · refine vc_X8_isWord_s10_28 _ mi ml ⟨_, _, _, s_len10, ?_⟩
        simp (disch := omega) only [Nat.lt_irrefl, nI_ltI, nI_eq, nI_clamp, nI_1, xl_0, xg_0, xe_0, xe_m1, nI_0, xl_1, xl_2, xl_3, xl_4, xl_5, xl_6, xl_7, xl_8, xl_9, xl_10, xl_12, xl_20, xl_30, xl_32, xl_40, xl_41, xl_42, xl_48, xl_57, xl_59, xl_64, xl_97, xl_100, xl_122, xl_126, xl_128, xl_1000, xl_9999, xg_1, xg_2, xg_3, xg_4, xg_5, xg_6, xg_7, xg_8, xg_9, xg_10, xg_12, xg_20, xg_30, xg_32, xg_40, xg_41, xg_42, xg_48, xg_57, xg_59, xg_64, xg_97, xg_100, xg_122, xg_126, xg_128, xg_1000, xg_9999, xe_1, xe_2, xe_3, xe_4, xe_5, xe_6, xe_7, xe_8, xe_9, xe_10, xe_12, xe_20, xe_30, xe_32, xe_40, xe_41, xe_42, xe_48, xe_57, xe_59, xe_64, xe_97, xe_100, xe_122, xe_126, xe_128, xe_1000, xe_9999, true_implies, false_implies, not_true_eq_false, not_false_eq_true, and_true, true_and, forall_const, imp_self, lc_eq, implies_true, vin, Bool.true_eq_false, Bool.false_eq_true, false_and, and_false, or_false, false_or, or_true, true_or]
        rw [pI_1 ⟨c, c2, hyes⟩] at hQ; exact hQ
    · rw [pI_0 (fun h => c2 h.2.1)] at hQ; exact hQ
  · rw [pI_0 (fun h => c h.1)] at hQ; exact hQ
theorem s_len11 : cS (ab_ro L xs) (d + 2) 244 [.ref 1000011] mi ml (some (.int (nI 4))) mi ml := by
  refine ab_sem_q rfl rfl (fun Q hQ => vc_J0_length_8abf5_s11_0 mi ml ⟨0, mi, ml, ab_sem_q rfl rfl (fun Q hQ => vc_J0_coder_7d493_s11_0 mi ml ⟨by decide +kernel, hQ⟩), ?_⟩)
  have e : (Int32.ofNat 4) >>> ((0 : Int32) &&& 31) = nI 4 := by decide +kernel
  rw [e]; exact hQ
theorem s_chr11 {i : Nat} (hi : i < 4) : cS (ab_ro L xs) (d + 4) 245 [.ref 1000011, .int (nI i)] mi ml (some (.int (ab_sb 11 i))) mi ml := by
  have e := sb_c 11 (by decide) i (by omega)
  have e2 := sb_n 11 (by decide) i (by omega)
  have s1 : cS (ab_ro L xs) (d + 3) 249 [.ref 1000111, .int (nI i)] mi ml (some (.int (ab_sb 11 i))) mi ml := by
    refine ab_sem_q rfl rfl (fun Q hQ => vc_J1_charAt_3b067_s11_0 _ mi ml ⟨_, _, s_ckI (n := 4) hi (by decide), ?_⟩)
    rw [nI_clamp (by omega), e]
    exact ⟨in_of hi (by decide), e2, hQ⟩
  exact ab_sem_q rfl rfl (fun Q hQ => vc_J0_charAt_5068e_s11_0 _ mi ml ⟨1, mi, ml, ab_sem_q rfl rfl (fun Q hQ => vc_J0_isLatin1_aae02_s11_0 mi ml hQ), fun q => (by cases q), fun _ => ⟨_, _, _, s1, e2, hQ⟩⟩)
theorem s_wd11 (Z : tOK T) (C : cT T mi) {p : Nat} (hp : p ≤ T.1) (S : TS T p mi) : cS (ab_ro L xs) (d + 5) 86 [.ref 2, .ref 1000011] mi ml (some (.int (pI (wdP T 11 p)))) mi ml := by
  have hn := Z.1
  have hs := tS_le T hp
  have he := tE_le T hp
  refine ab_sem_q rfl rfl (fun Q hQ => vc_X8_isWord_s11_0 mi ml ?_)
  have hk : tK T p < 2 ^ 31 := by have := kd_7 T (tS T p); unfold tK; split <;> omega
  rw [S.1, S.2.1, S.2.2, xe_2 hk]
  refine ⟨fun c => ⟨_, _, _, s_len11, ?_⟩, fun c => ?_⟩
  · have hle : tS T p ≤ tE T p := by
      by_cases q : tS T p < T.1
      · have := tE_gt Z q; omega
      · have k0 : kd T (tS T p) = 0 := kd_0.2 (by omega)
        unfold tK at c; rw [k0] at c; simp at c
    rw [nI_m hle, nI_eq (by omega) (by omega)]
    refine ⟨fun c2 => ?_, fun c2 => ?_⟩
    · refine up0 (n := 4) (F := fun i => (∀ k, k < i → nI (T.2 (tS T p + k)) = ab_sb 11 k) → W_X8_isWord_s11_28 (cs (ab_ro L xs) (d + 4)) (ab_ro L xs) Q (nI i) mi ml) (fun i hi ih hyes => ?_) (fun hyes => ?_) (fun k hk => absurd hk (Nat.not_lt_zero k))
      · refine vc_X8_isWord_s11_28 _ mi ml ⟨_, _, _, s_len11, ?_⟩
        have hlt : tS T p + i < T.1 := by omega
        have e3 := (C.2 _ hlt).1
        rw [S.1, C.1, nI_add]
        simp (disch := omega) only [hi, hlt, e3, nI_ltI, nI_eq, nI_clamp, nI_1, xl_0, xg_0, xe_0, xe_m1, nI_0, xl_1, xl_2, xl_3, xl_4, xl_5, xl_6, xl_7, xl_8, xl_9, xl_10, xl_12, xl_20, xl_30, xl_32, xl_40, xl_41, xl_42, xl_48, xl_57, xl_59, xl_64, xl_97, xl_100, xl_122, xl_126, xl_128, xl_1000, xl_9999, xg_1, xg_2, xg_3, xg_4, xg_5, xg_6, xg_7, xg_8, xg_9, xg_10, xg_12, xg_20, xg_30, xg_32, xg_40, xg_41, xg_42, xg_48, xg_57, xg_59, xg_64, xg_97, xg_100, xg_122, xg_126, xg_128, xg_1000, xg_9999, xe_1, xe_2, xe_3, xe_4, xe_5, xe_6, xe_7, xe_8, xe_9, xe_10, xe_12, xe_20, xe_30, xe_32, xe_40, xe_41, xe_42, xe_48, xe_57, xe_59, xe_64, xe_97, xe_100, xe_122, xe_126, xe_128, xe_1000, xe_9999, true_implies, false_implies, not_true_eq_false, not_false_eq_true, and_true, true_and, forall_const, imp_self, lc_eq, implies_true, vin, Bool.true_eq_false, Bool.false_eq_true, false_and, and_false, or_false, false_or, or_true, true_or]
        refine ⟨_, _, _, s_chr11 hi, fun c3 => ih (fun k hk => ?_), fun c3 => ?_⟩
        · rcases Nat.lt_or_eq_of_le (Nat.le_of_lt_succ hk) with q | q
          · exact hyes k q
          · rw [q]; exact c3
        · rw [pI_0 (fun h => c3 (h.2.2 i hi))] at hQ; exact hQ
      · refine vc_X8_isWord_s11_28 _ mi ml ⟨_, _, _, s_len11, ?_⟩
        simp (disch := omega) only [Nat.lt_irrefl, nI_ltI, nI_eq, nI_clamp, nI_1, xl_0, xg_0, xe_0, xe_m1, nI_0, xl_1, xl_2, xl_3, xl_4, xl_5, xl_6, xl_7, xl_8, xl_9, xl_10, xl_12, xl_20, xl_30, xl_32, xl_40, xl_41, xl_42, xl_48, xl_57, xl_59, xl_64, xl_97, xl_100, xl_122, xl_126, xl_128, xl_1000, xl_9999, xg_1, xg_2, xg_3, xg_4, xg_5, xg_6, xg_7, xg_8, xg_9, xg_10, xg_12, xg_20, xg_30, xg_32, xg_40, xg_41, xg_42, xg_48, xg_57, xg_59, xg_64, xg_97, xg_100, xg_122, xg_126, xg_128, xg_1000, xg_9999, xe_1, xe_2, xe_3, xe_4, xe_5, xe_6, xe_7, xe_8, xe_9, xe_10, xe_12, xe_20, xe_30, xe_32, xe_40, xe_41, xe_42, xe_48, xe_57, xe_59, xe_64, xe_97, xe_100, xe_122, xe_126, xe_128, xe_1000, xe_9999, true_implies, false_implies, not_true_eq_false, not_false_eq_true, and_true, true_and, forall_const, imp_self, lc_eq, implies_true, vin, Bool.true_eq_false, Bool.false_eq_true, false_and, and_false, or_false, false_or, or_true, true_or]
        rw [pI_1 ⟨c, c2, hyes⟩] at hQ; exact hQ
    · rw [pI_0 (fun h => c2 h.2.1)] at hQ; exact hQ
  · rw [pI_0 (fun h => c h.1)] at hQ; exact hQ
theorem s_len12 : cS (ab_ro L xs) (d + 2) 244 [.ref 1000012] mi ml (some (.int (nI 5))) mi ml := by
  refine ab_sem_q rfl rfl (fun Q hQ => vc_J0_length_8abf5_s12_0 mi ml ⟨0, mi, ml, ab_sem_q rfl rfl (fun Q hQ => vc_J0_coder_7d493_s12_0 mi ml ⟨by decide +kernel, hQ⟩), ?_⟩)
  have e : (Int32.ofNat 5) >>> ((0 : Int32) &&& 31) = nI 5 := by decide +kernel
  rw [e]; exact hQ
theorem s_chr12 {i : Nat} (hi : i < 5) : cS (ab_ro L xs) (d + 4) 245 [.ref 1000012, .int (nI i)] mi ml (some (.int (ab_sb 12 i))) mi ml := by
  have e := sb_c 12 (by decide) i (by omega)
  have e2 := sb_n 12 (by decide) i (by omega)
  have s1 : cS (ab_ro L xs) (d + 3) 249 [.ref 1000112, .int (nI i)] mi ml (some (.int (ab_sb 12 i))) mi ml := by
    refine ab_sem_q rfl rfl (fun Q hQ => vc_J1_charAt_3b067_s12_0 _ mi ml ⟨_, _, s_ckI (n := 5) hi (by decide), ?_⟩)
    rw [nI_clamp (by omega), e]
    exact ⟨in_of hi (by decide), e2, hQ⟩
  exact ab_sem_q rfl rfl (fun Q hQ => vc_J0_charAt_5068e_s12_0 _ mi ml ⟨1, mi, ml, ab_sem_q rfl rfl (fun Q hQ => vc_J0_isLatin1_aae02_s12_0 mi ml hQ), fun q => (by cases q), fun _ => ⟨_, _, _, s1, e2, hQ⟩⟩)
theorem s_wd12 (Z : tOK T) (C : cT T mi) {p : Nat} (hp : p ≤ T.1) (S : TS T p mi) : cS (ab_ro L xs) (d + 5) 86 [.ref 2, .ref 1000012] mi ml (some (.int (pI (wdP T 12 p)))) mi ml := by
  have hn := Z.1
  have hs := tS_le T hp
  have he := tE_le T hp
  refine ab_sem_q rfl rfl (fun Q hQ => vc_X8_isWord_s12_0 mi ml ?_)
  have hk : tK T p < 2 ^ 31 := by have := kd_7 T (tS T p); unfold tK; split <;> omega
  rw [S.1, S.2.1, S.2.2, xe_2 hk]
  refine ⟨fun c => ⟨_, _, _, s_len12, ?_⟩, fun c => ?_⟩
  · have hle : tS T p ≤ tE T p := by
      by_cases q : tS T p < T.1
      · have := tE_gt Z q; omega
      · have k0 : kd T (tS T p) = 0 := kd_0.2 (by omega)
        unfold tK at c; rw [k0] at c; simp at c
    rw [nI_m hle, nI_eq (by omega) (by omega)]
    refine ⟨fun c2 => ?_, fun c2 => ?_⟩
    · refine up0 (n := 5) (F := fun i => (∀ k, k < i → nI (T.2 (tS T p + k)) = ab_sb 12 k) → W_X8_isWord_s12_28 (cs (ab_ro L xs) (d + 4)) (ab_ro L xs) Q (nI i) mi ml) (fun i hi ih hyes => ?_) (fun hyes => ?_) (fun k hk => absurd hk (Nat.not_lt_zero k))
      · refine vc_X8_isWord_s12_28 _ mi ml ⟨_, _, _, s_len12, ?_⟩
        have hlt : tS T p + i < T.1 := by omega
        have e3 := (C.2 _ hlt).1
        rw [S.1, C.1, nI_add]
        simp (disch := omega) only [hi, hlt, e3, nI_ltI, nI_eq, nI_clamp, nI_1, xl_0, xg_0, xe_0, xe_m1, nI_0, xl_1, xl_2, xl_3, xl_4, xl_5, xl_6, xl_7, xl_8, xl_9, xl_10, xl_12, xl_20, xl_30, xl_32, xl_40, xl_41, xl_42, xl_48, xl_57, xl_59, xl_64, xl_97, xl_100, xl_122, xl_126, xl_128, xl_1000, xl_9999, xg_1, xg_2, xg_3, xg_4, xg_5, xg_6, xg_7, xg_8, xg_9, xg_10, xg_12, xg_20, xg_30, xg_32, xg_40, xg_41, xg_42, xg_48, xg_57, xg_59, xg_64, xg_97, xg_100, xg_122, xg_126, xg_128, xg_1000, xg_9999, xe_1, xe_2, xe_3, xe_4, xe_5, xe_6, xe_7, xe_8, xe_9, xe_10, xe_12, xe_20, xe_30, xe_32, xe_40, xe_41, xe_42, xe_48, xe_57, xe_59, xe_64, xe_97, xe_100, xe_122, xe_126, xe_128, xe_1000, xe_9999, true_implies, false_implies, not_true_eq_false, not_false_eq_true, and_true, true_and, forall_const, imp_self, lc_eq, implies_true, vin, Bool.true_eq_false, Bool.false_eq_true, false_and, and_false, or_false, false_or, or_true, true_or]
        refine ⟨_, _, _, s_chr12 hi, fun c3 => ih (fun k hk => ?_), fun c3 => ?_⟩
        · rcases Nat.lt_or_eq_of_le (Nat.le_of_lt_succ hk) with q | q
          · exact hyes k q
          · rw [q]; exact c3
        · rw [pI_0 (fun h => c3 (h.2.2 i hi))] at hQ; exact hQ
      · refine vc_X8_isWord_s12_28 _ mi ml ⟨_, _, _, s_len12, ?_⟩
        simp (disch := omega) only [Nat.lt_irrefl, nI_ltI, nI_eq, nI_clamp, nI_1, xl_0, xg_0, xe_0, xe_m1, nI_0, xl_1, xl_2, xl_3, xl_4, xl_5, xl_6, xl_7, xl_8, xl_9, xl_10, xl_12, xl_20, xl_30, xl_32, xl_40, xl_41, xl_42, xl_48, xl_57, xl_59, xl_64, xl_97, xl_100, xl_122, xl_126, xl_128, xl_1000, xl_9999, xg_1, xg_2, xg_3, xg_4, xg_5, xg_6, xg_7, xg_8, xg_9, xg_10, xg_12, xg_20, xg_30, xg_32, xg_40, xg_41, xg_42, xg_48, xg_57, xg_59, xg_64, xg_97, xg_100, xg_122, xg_126, xg_128, xg_1000, xg_9999, xe_1, xe_2, xe_3, xe_4, xe_5, xe_6, xe_7, xe_8, xe_9, xe_10, xe_12, xe_20, xe_30, xe_32, xe_40, xe_41, xe_42, xe_48, xe_57, xe_59, xe_64, xe_97, xe_100, xe_122, xe_126, xe_128, xe_1000, xe_9999, true_implies, false_implies, not_true_eq_false, not_false_eq_true, and_true, true_and, forall_const, imp_self, lc_eq, implies_true, vin, Bool.true_eq_false, Bool.false_eq_true, false_and, and_false, or_false, false_or, or_true, true_or]
        rw [pI_1 ⟨c, c2, hyes⟩] at hQ; exact hQ
    · rw [pI_0 (fun h => c2 h.2.1)] at hQ; exact hQ
  · rw [pI_0 (fun h => c h.1)] at hQ; exact hQ
theorem s_len13 : cS (ab_ro L xs) (d + 2) 244 [.ref 1000013] mi ml (some (.int (nI 3))) mi ml := by
  refine ab_sem_q rfl rfl (fun Q hQ => vc_J0_length_8abf5_s13_0 mi ml ⟨0, mi, ml, ab_sem_q rfl rfl (fun Q hQ => vc_J0_coder_7d493_s13_0 mi ml ⟨by decide +kernel, hQ⟩), ?_⟩)
  have e : (Int32.ofNat 3) >>> ((0 : Int32) &&& 31) = nI 3 := by decide +kernel
  rw [e]; exact hQ
theorem s_chr13 {i : Nat} (hi : i < 3) : cS (ab_ro L xs) (d + 4) 245 [.ref 1000013, .int (nI i)] mi ml (some (.int (ab_sb 13 i))) mi ml := by
  have e := sb_c 13 (by decide) i (by omega)
  have e2 := sb_n 13 (by decide) i (by omega)
  have s1 : cS (ab_ro L xs) (d + 3) 249 [.ref 1000113, .int (nI i)] mi ml (some (.int (ab_sb 13 i))) mi ml := by
    refine ab_sem_q rfl rfl (fun Q hQ => vc_J1_charAt_3b067_s13_0 _ mi ml ⟨_, _, s_ckI (n := 3) hi (by decide), ?_⟩)
    rw [nI_clamp (by omega), e]
    exact ⟨in_of hi (by decide), e2, hQ⟩
  exact ab_sem_q rfl rfl (fun Q hQ => vc_J0_charAt_5068e_s13_0 _ mi ml ⟨1, mi, ml, ab_sem_q rfl rfl (fun Q hQ => vc_J0_isLatin1_aae02_s13_0 mi ml hQ), fun q => (by cases q), fun _ => ⟨_, _, _, s1, e2, hQ⟩⟩)
theorem s_wd13 (Z : tOK T) (C : cT T mi) {p : Nat} (hp : p ≤ T.1) (S : TS T p mi) : cS (ab_ro L xs) (d + 5) 86 [.ref 2, .ref 1000013] mi ml (some (.int (pI (wdP T 13 p)))) mi ml := by
  have hn := Z.1
  have hs := tS_le T hp
  have he := tE_le T hp
  refine ab_sem_q rfl rfl (fun Q hQ => vc_X8_isWord_s13_0 mi ml ?_)
  have hk : tK T p < 2 ^ 31 := by have := kd_7 T (tS T p); unfold tK; split <;> omega
  rw [S.1, S.2.1, S.2.2, xe_2 hk]
  refine ⟨fun c => ⟨_, _, _, s_len13, ?_⟩, fun c => ?_⟩
  · have hle : tS T p ≤ tE T p := by
      by_cases q : tS T p < T.1
      · have := tE_gt Z q; omega
      · have k0 : kd T (tS T p) = 0 := kd_0.2 (by omega)
        unfold tK at c; rw [k0] at c; simp at c
    rw [nI_m hle, nI_eq (by omega) (by omega)]
    refine ⟨fun c2 => ?_, fun c2 => ?_⟩
    · refine up0 (n := 3) (F := fun i => (∀ k, k < i → nI (T.2 (tS T p + k)) = ab_sb 13 k) → W_X8_isWord_s13_28 (cs (ab_ro L xs) (d + 4)) (ab_ro L xs) Q (nI i) mi ml) (fun i hi ih hyes => ?_) (fun hyes => ?_) (fun k hk => absurd hk (Nat.not_lt_zero k))
      · refine vc_X8_isWord_s13_28 _ mi ml ⟨_, _, _, s_len13, ?_⟩
        have hlt : tS T p + i < T.1 := by omega
        have e3 := (C.2 _ hlt).1
        rw [S.1, C.1, nI_add]
        simp (disch := omega) only [hi, hlt, e3, nI_ltI, nI_eq, nI_clamp, nI_1, xl_0, xg_0, xe_0, xe_m1, nI_0, xl_1, xl_2, xl_3, xl_4, xl_5, xl_6, xl_7, xl_8, xl_9, xl_10, xl_12, xl_20, xl_30, xl_32, xl_40, xl_41, xl_42, xl_48, xl_57, xl_59, xl_64, xl_97, xl_100, xl_122, xl_126, xl_128, xl_1000, xl_9999, xg_1, xg_2, xg_3, xg_4, xg_5, xg_6, xg_7, xg_8, xg_9, xg_10, xg_12, xg_20, xg_30, xg_32, xg_40, xg_41, xg_42, xg_48, xg_57, xg_59, xg_64, xg_97, xg_100, xg_122, xg_126, xg_128, xg_1000, xg_9999, xe_1, xe_2, xe_3, xe_4, xe_5, xe_6, xe_7, xe_8, xe_9, xe_10, xe_12, xe_20, xe_30, xe_32, xe_40, xe_41, xe_42, xe_48, xe_57, xe_59, xe_64, xe_97, xe_100, xe_122, xe_126, xe_128, xe_1000, xe_9999, true_implies, false_implies, not_true_eq_false, not_false_eq_true, and_true, true_and, forall_const, imp_self, lc_eq, implies_true, vin, Bool.true_eq_false, Bool.false_eq_true, false_and, and_false, or_false, false_or, or_true, true_or]
        refine ⟨_, _, _, s_chr13 hi, fun c3 => ih (fun k hk => ?_), fun c3 => ?_⟩
        · rcases Nat.lt_or_eq_of_le (Nat.le_of_lt_succ hk) with q | q
          · exact hyes k q
          · rw [q]; exact c3
        · rw [pI_0 (fun h => c3 (h.2.2 i hi))] at hQ; exact hQ
      · refine vc_X8_isWord_s13_28 _ mi ml ⟨_, _, _, s_len13, ?_⟩
        simp (disch := omega) only [Nat.lt_irrefl, nI_ltI, nI_eq, nI_clamp, nI_1, xl_0, xg_0, xe_0, xe_m1, nI_0, xl_1, xl_2, xl_3, xl_4, xl_5, xl_6, xl_7, xl_8, xl_9, xl_10, xl_12, xl_20, xl_30, xl_32, xl_40, xl_41, xl_42, xl_48, xl_57, xl_59, xl_64, xl_97, xl_100, xl_122, xl_126, xl_128, xl_1000, xl_9999, xg_1, xg_2, xg_3, xg_4, xg_5, xg_6, xg_7, xg_8, xg_9, xg_10, xg_12, xg_20, xg_30, xg_32, xg_40, xg_41, xg_42, xg_48, xg_57, xg_59, xg_64, xg_97, xg_100, xg_122, xg_126, xg_128, xg_1000, xg_9999, xe_1, xe_2, xe_3, xe_4, xe_5, xe_6, xe_7, xe_8, xe_9, xe_10, xe_12, xe_20, xe_30, xe_32, xe_40, xe_41, xe_42, xe_48, xe_57, xe_59, xe_64, xe_97, xe_100, xe_122, xe_126, xe_128, xe_1000, xe_9999, true_implies, false_implies, not_true_eq_false, not_false_eq_true, and_true, true_and, forall_const, imp_self, lc_eq, implies_true, vin, Bool.true_eq_false, Bool.false_eq_true, false_and, and_false, or_false, false_or, or_true, true_or]
        rw [pI_1 ⟨c, c2, hyes⟩] at hQ; exact hQ
    · rw [pI_0 (fun h => c2 h.2.1)] at hQ; exact hQ
  · rw [pI_0 (fun h => c h.1)] at hQ; exact hQ
theorem s_len14 : cS (ab_ro L xs) (d + 2) 244 [.ref 1000014] mi ml (some (.int (nI 2))) mi ml := by
  refine ab_sem_q rfl rfl (fun Q hQ => vc_J0_length_8abf5_s14_0 mi ml ⟨0, mi, ml, ab_sem_q rfl rfl (fun Q hQ => vc_J0_coder_7d493_s14_0 mi ml ⟨by decide +kernel, hQ⟩), ?_⟩)
  have e : (Int32.ofNat 2) >>> ((0 : Int32) &&& 31) = nI 2 := by decide +kernel
  rw [e]; exact hQ
theorem s_chr14 {i : Nat} (hi : i < 2) : cS (ab_ro L xs) (d + 4) 245 [.ref 1000014, .int (nI i)] mi ml (some (.int (ab_sb 14 i))) mi ml := by
  have e := sb_c 14 (by decide) i (by omega)
  have e2 := sb_n 14 (by decide) i (by omega)
  have s1 : cS (ab_ro L xs) (d + 3) 249 [.ref 1000114, .int (nI i)] mi ml (some (.int (ab_sb 14 i))) mi ml := by
    refine ab_sem_q rfl rfl (fun Q hQ => vc_J1_charAt_3b067_s14_0 _ mi ml ⟨_, _, s_ckI (n := 2) hi (by decide), ?_⟩)
    rw [nI_clamp (by omega), e]
    exact ⟨in_of hi (by decide), e2, hQ⟩
  exact ab_sem_q rfl rfl (fun Q hQ => vc_J0_charAt_5068e_s14_0 _ mi ml ⟨1, mi, ml, ab_sem_q rfl rfl (fun Q hQ => vc_J0_isLatin1_aae02_s14_0 mi ml hQ), fun q => (by cases q), fun _ => ⟨_, _, _, s1, e2, hQ⟩⟩)
theorem s_wd14 (Z : tOK T) (C : cT T mi) {p : Nat} (hp : p ≤ T.1) (S : TS T p mi) : cS (ab_ro L xs) (d + 5) 86 [.ref 2, .ref 1000014] mi ml (some (.int (pI (wdP T 14 p)))) mi ml := by
  have hn := Z.1
  have hs := tS_le T hp
  have he := tE_le T hp
  refine ab_sem_q rfl rfl (fun Q hQ => vc_X8_isWord_s14_0 mi ml ?_)
  have hk : tK T p < 2 ^ 31 := by have := kd_7 T (tS T p); unfold tK; split <;> omega
  rw [S.1, S.2.1, S.2.2, xe_2 hk]
  refine ⟨fun c => ⟨_, _, _, s_len14, ?_⟩, fun c => ?_⟩
  · have hle : tS T p ≤ tE T p := by
      by_cases q : tS T p < T.1
      · have := tE_gt Z q; omega
      · have k0 : kd T (tS T p) = 0 := kd_0.2 (by omega)
        unfold tK at c; rw [k0] at c; simp at c
    rw [nI_m hle, nI_eq (by omega) (by omega)]
    refine ⟨fun c2 => ?_, fun c2 => ?_⟩
    · refine up0 (n := 2) (F := fun i => (∀ k, k < i → nI (T.2 (tS T p + k)) = ab_sb 14 k) → W_X8_isWord_s14_28 (cs (ab_ro L xs) (d + 4)) (ab_ro L xs) Q (nI i) mi ml) (fun i hi ih hyes => ?_) (fun hyes => ?_) (fun k hk => absurd hk (Nat.not_lt_zero k))
      · refine vc_X8_isWord_s14_28 _ mi ml ⟨_, _, _, s_len14, ?_⟩
        have hlt : tS T p + i < T.1 := by omega
        have e3 := (C.2 _ hlt).1
        rw [S.1, C.1, nI_add]
        simp (disch := omega) only [hi, hlt, e3, nI_ltI, nI_eq, nI_clamp, nI_1, xl_0, xg_0, xe_0, xe_m1, nI_0, xl_1, xl_2, xl_3, xl_4, xl_5, xl_6, xl_7, xl_8, xl_9, xl_10, xl_12, xl_20, xl_30, xl_32, xl_40, xl_41, xl_42, xl_48, xl_57, xl_59, xl_64, xl_97, xl_100, xl_122, xl_126, xl_128, xl_1000, xl_9999, xg_1, xg_2, xg_3, xg_4, xg_5, xg_6, xg_7, xg_8, xg_9, xg_10, xg_12, xg_20, xg_30, xg_32, xg_40, xg_41, xg_42, xg_48, xg_57, xg_59, xg_64, xg_97, xg_100, xg_122, xg_126, xg_128, xg_1000, xg_9999, xe_1, xe_2, xe_3, xe_4, xe_5, xe_6, xe_7, xe_8, xe_9, xe_10, xe_12, xe_20, xe_30, xe_32, xe_40, xe_41, xe_42, xe_48, xe_57, xe_59, xe_64, xe_97, xe_100, xe_122, xe_126, xe_128, xe_1000, xe_9999, true_implies, false_implies, not_true_eq_false, not_false_eq_true, and_true, true_and, forall_const, imp_self, lc_eq, implies_true, vin, Bool.true_eq_false, Bool.false_eq_true, false_and, and_false, or_false, false_or, or_true, true_or]
        refine ⟨_, _, _, s_chr14 hi, fun c3 => ih (fun k hk => ?_), fun c3 => ?_⟩
        · rcases Nat.lt_or_eq_of_le (Nat.le_of_lt_succ hk) with q | q
          · exact hyes k q
          · rw [q]; exact c3
        · rw [pI_0 (fun h => c3 (h.2.2 i hi))] at hQ; exact hQ
      · refine vc_X8_isWord_s14_28 _ mi ml ⟨_, _, _, s_len14, ?_⟩
        simp (disch := omega) only [Nat.lt_irrefl, nI_ltI, nI_eq, nI_clamp, nI_1, xl_0, xg_0, xe_0, xe_m1, nI_0, xl_1, xl_2, xl_3, xl_4, xl_5, xl_6, xl_7, xl_8, xl_9, xl_10, xl_12, xl_20, xl_30, xl_32, xl_40, xl_41, xl_42, xl_48, xl_57, xl_59, xl_64, xl_97, xl_100, xl_122, xl_126, xl_128, xl_1000, xl_9999, xg_1, xg_2, xg_3, xg_4, xg_5, xg_6, xg_7, xg_8, xg_9, xg_10, xg_12, xg_20, xg_30, xg_32, xg_40, xg_41, xg_42, xg_48, xg_57, xg_59, xg_64, xg_97, xg_100, xg_122, xg_126, xg_128, xg_1000, xg_9999, xe_1, xe_2, xe_3, xe_4, xe_5, xe_6, xe_7, xe_8, xe_9, xe_10, xe_12, xe_20, xe_30, xe_32, xe_40, xe_41, xe_42, xe_48, xe_57, xe_59, xe_64, xe_97, xe_100, xe_122, xe_126, xe_128, xe_1000, xe_9999, true_implies, false_implies, not_true_eq_false, not_false_eq_true, and_true, true_and, forall_const, imp_self, lc_eq, implies_true, vin, Bool.true_eq_false, Bool.false_eq_true, false_and, and_false, or_false, false_or, or_true, true_or]
        rw [pI_1 ⟨c, c2, hyes⟩] at hQ; exact hQ
    · rw [pI_0 (fun h => c2 h.2.1)] at hQ; exact hQ
  · rw [pI_0 (fun h => c h.1)] at hQ; exact hQ
end WD
