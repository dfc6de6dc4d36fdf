/-! The class's wishes and groups. -/
section GA
variable {ro : ab_E} {d : Nat} {ti mi : cM1} {tl ml : cM2}
theorem s_isSeen (H : eqP ti tl mi ml) {w : Nat} (hw : w < 30) : cS ro (d + 1) 97 [.ref 12, .int (nI w), .int (cSeen ti)] mi ml (some (.int (pI (seenP ti w)))) mi ml := by
  refine ab_sem_q rfl rfl (fun Q hQ => vc_X10_isSeen_0 _ _ mi ml ?_)
  have hv : vp_in (nI w) 30 := in_of hw (by decide)
  simp (disch := omega) only [H.e16, H.e17, hv, nI_ltI, nI_eq, nI_clamp, nI_1, xl_0, xg_0, xe_0, xe_m1, nI_0, xl_1, xl_2, xl_3, xl_4, xl_5, xl_6, xl_7, xl_8, xl_9, xl_10, xl_12, xl_20, xl_30, xl_32, xl_40, xl_41, xl_42, xl_48, xl_57, xl_59, xl_64, xl_97, xl_100, xl_122, xl_126, xl_128, xl_1000, xl_9999, xg_1, xg_2, xg_3, xg_4, xg_5, xg_6, xg_7, xg_8, xg_9, xg_10, xg_12, xg_20, xg_30, xg_32, xg_40, xg_41, xg_42, xg_48, xg_57, xg_59, xg_64, xg_97, xg_100, xg_122, xg_126, xg_128, xg_1000, xg_9999, xe_1, xe_2, xe_3, xe_4, xe_5, xe_6, xe_7, xe_8, xe_9, xe_10, xe_12, xe_20, xe_30, xe_32, xe_40, xe_41, xe_42, xe_48, xe_57, xe_59, xe_64, xe_97, xe_100, xe_122, xe_126, xe_128, xe_1000, xe_9999, true_implies, false_implies, not_true_eq_false, not_false_eq_true, and_true, true_and, forall_const, imp_self, lc_eq, implies_true, vin, Bool.true_eq_false, Bool.false_eq_true, false_and, and_false, or_false, false_or, or_true, true_or]
  by_cases c1 : cSeen ti < ti 16 w
  · rw [pI_0 (fun h => h.1 c1)] at hQ
    exact ⟨fun _ => hQ, fun h => absurd c1 h⟩
  · refine ⟨fun h => absurd h c1, fun _ => ⟨fun c2 => ?_, fun c2 => ⟨fun c3 => ?_, fun c3 => ?_⟩⟩⟩
    · rw [pI_1 ⟨c1, Or.inl c2⟩] at hQ; exact hQ
    · rw [pI_1 ⟨c1, Or.inr c3⟩] at hQ; exact hQ
    · rw [pI_0 (fun h => h.2.elim c2 c3)] at hQ; exact hQ
theorem s_seenOn (O : okT ti) (H : eqP ti tl mi ml) : cS ro (d + 2) 98 [.ref 12, .int (cSeen ti)] mi ml (some (.int (nI (pcn (fun w => pB (seenP ti w)) (nW ti))))) mi ml := by
  have hW := O.W2
  refine ab_sem_q rfl rfl (fun Q hQ => vc_X10_seenOn_0 _ mi ml ?_)
  refine up0 (n := nW ti) (F := fun i => W_X10_seenOn_4 (cs ro (d + 1)) ro Q (cSeen ti) (nI (pcn (fun w => pB (seenP ti w)) i)) (nI i) mi ml) (fun i hi ih => ?_) ?_
  · refine vc_X10_seenOn_4 _ _ _ mi ml ?_
    simp (disch := omega) only [H.e125, O.W, hi, nI_ltI, nI_eq, nI_clamp, nI_1, xl_0, xg_0, xe_0, xe_m1, nI_0, xl_1, xl_2, xl_3, xl_4, xl_5, xl_6, xl_7, xl_8, xl_9, xl_10, xl_12, xl_20, xl_30, xl_32, xl_40, xl_41, xl_42, xl_48, xl_57, xl_59, xl_64, xl_97, xl_100, xl_122, xl_126, xl_128, xl_1000, xl_9999, xg_1, xg_2, xg_3, xg_4, xg_5, xg_6, xg_7, xg_8, xg_9, xg_10, xg_12, xg_20, xg_30, xg_32, xg_40, xg_41, xg_42, xg_48, xg_57, xg_59, xg_64, xg_97, xg_100, xg_122, xg_126, xg_128, xg_1000, xg_9999, xe_1, xe_2, xe_3, xe_4, xe_5, xe_6, xe_7, xe_8, xe_9, xe_10, xe_12, xe_20, xe_30, xe_32, xe_40, xe_41, xe_42, xe_48, xe_57, xe_59, xe_64, xe_97, xe_100, xe_122, xe_126, xe_128, xe_1000, xe_9999, true_implies, false_implies, not_true_eq_false, not_false_eq_true, and_true, true_and, forall_const, imp_self, lc_eq, implies_true, vin, Bool.true_eq_false, Bool.false_eq_true, false_and, and_false, or_false, false_or, or_true, true_or]
    refine ⟨_, _, _, s_isSeen H (by omega), ?_⟩
    rw [pI_e0]
    refine ⟨fun c => ?_, fun c => ?_⟩
    · rw [pcn_s0 (f := fun w => pB (seenP ti w)) (n := i) (pB_f.2 c)]; exact ih
    · rw [pcn_s1 (f := fun w => pB (seenP ti w)) (n := i) (pB_iff.2 (Classical.not_not.1 c))]; exact ih
  · refine vc_X10_seenOn_4 _ _ _ mi ml ?_
    simp (disch := omega) only [H.e125, O.W, Nat.lt_irrefl, nI_ltI, nI_eq, nI_clamp, nI_1, xl_0, xg_0, xe_0, xe_m1, nI_0, xl_1, xl_2, xl_3, xl_4, xl_5, xl_6, xl_7, xl_8, xl_9, xl_10, xl_12, xl_20, xl_30, xl_32, xl_40, xl_41, xl_42, xl_48, xl_57, xl_59, xl_64, xl_97, xl_100, xl_122, xl_126, xl_128, xl_1000, xl_9999, xg_1, xg_2, xg_3, xg_4, xg_5, xg_6, xg_7, xg_8, xg_9, xg_10, xg_12, xg_20, xg_30, xg_32, xg_40, xg_41, xg_42, xg_48, xg_57, xg_59, xg_64, xg_97, xg_100, xg_122, xg_126, xg_128, xg_1000, xg_9999, xe_1, xe_2, xe_3, xe_4, xe_5, xe_6, xe_7, xe_8, xe_9, xe_10, xe_12, xe_20, xe_30, xe_32, xe_40, xe_41, xe_42, xe_48, xe_57, xe_59, xe_64, xe_97, xe_100, xe_122, xe_126, xe_128, xe_1000, xe_9999, true_implies, false_implies, not_true_eq_false, not_false_eq_true, and_true, true_and, forall_const, imp_self, lc_eq, implies_true, vin, Bool.true_eq_false, Bool.false_eq_true, false_and, and_false, or_false, false_or, or_true, true_or]
    exact hQ
theorem s_withdrawn (O : okT ti) (H : eqP ti tl mi ml) : cS ro (d + 1) 99 [.ref 12] mi ml (some (.int (nI (pcn (fun w => pB (¬ ti 17 w = -1)) (nW ti))))) mi ml := by
  have hW := O.W2
  refine ab_sem_q rfl rfl (fun Q hQ => vc_X10_withdrawn_0 mi ml ?_)
  refine up0 (n := nW ti) (F := fun i => W_X10_withdrawn_4 (cs ro d) ro Q (nI (pcn (fun w => pB (¬ ti 17 w = -1)) i)) (nI i) mi ml) (fun i hi ih => ?_) ?_
  · refine vc_X10_withdrawn_4 _ _ mi ml ?_
    have hv : vp_in (nI i) 30 := in_of (by omega) (by decide)
    simp (disch := omega) only [H.e125, H.e17, O.W, hi, hv, nI_ltI, nI_eq, nI_clamp, nI_1, xl_0, xg_0, xe_0, xe_m1, nI_0, xl_1, xl_2, xl_3, xl_4, xl_5, xl_6, xl_7, xl_8, xl_9, xl_10, xl_12, xl_20, xl_30, xl_32, xl_40, xl_41, xl_42, xl_48, xl_57, xl_59, xl_64, xl_97, xl_100, xl_122, xl_126, xl_128, xl_1000, xl_9999, xg_1, xg_2, xg_3, xg_4, xg_5, xg_6, xg_7, xg_8, xg_9, xg_10, xg_12, xg_20, xg_30, xg_32, xg_40, xg_41, xg_42, xg_48, xg_57, xg_59, xg_64, xg_97, xg_100, xg_122, xg_126, xg_128, xg_1000, xg_9999, xe_1, xe_2, xe_3, xe_4, xe_5, xe_6, xe_7, xe_8, xe_9, xe_10, xe_12, xe_20, xe_30, xe_32, xe_40, xe_41, xe_42, xe_48, xe_57, xe_59, xe_64, xe_97, xe_100, xe_122, xe_126, xe_128, xe_1000, xe_9999, true_implies, false_implies, not_true_eq_false, not_false_eq_true, and_true, true_and, forall_const, imp_self, lc_eq, implies_true, vin, Bool.true_eq_false, Bool.false_eq_true, false_and, and_false, or_false, false_or, or_true, true_or]
    refine ⟨fun c => ?_, fun c => ?_⟩
    · rw [pcn_s0 (f := fun w => pB (¬ ti 17 w = -1)) (n := i) (pB_f.2 (fun h => h c))]; exact ih
    · rw [pcn_s1 (f := fun w => pB (¬ ti 17 w = -1)) (n := i) (pB_iff.2 c)]; exact ih
  · refine vc_X10_withdrawn_4 _ _ mi ml ?_
    simp (disch := omega) only [H.e125, O.W, Nat.lt_irrefl, nI_ltI, nI_eq, nI_clamp, nI_1, xl_0, xg_0, xe_0, xe_m1, nI_0, xl_1, xl_2, xl_3, xl_4, xl_5, xl_6, xl_7, xl_8, xl_9, xl_10, xl_12, xl_20, xl_30, xl_32, xl_40, xl_41, xl_42, xl_48, xl_57, xl_59, xl_64, xl_97, xl_100, xl_122, xl_126, xl_128, xl_1000, xl_9999, xg_1, xg_2, xg_3, xg_4, xg_5, xg_6, xg_7, xg_8, xg_9, xg_10, xg_12, xg_20, xg_30, xg_32, xg_40, xg_41, xg_42, xg_48, xg_57, xg_59, xg_64, xg_97, xg_100, xg_122, xg_126, xg_128, xg_1000, xg_9999, xe_1, xe_2, xe_3, xe_4, xe_5, xe_6, xe_7, xe_8, xe_9, xe_10, xe_12, xe_20, xe_30, xe_32, xe_40, xe_41, xe_42, xe_48, xe_57, xe_59, xe_64, xe_97, xe_100, xe_122, xe_126, xe_128, xe_1000, xe_9999, true_implies, false_implies, not_true_eq_false, not_false_eq_true, and_true, true_and, forall_const, imp_self, lc_eq, implies_true, vin, Bool.true_eq_false, Bool.false_eq_true, false_and, and_false, or_false, false_or, or_true, true_or]
    exact hQ
theorem s_cut (O : okT ti) (H : eqP ti tl mi ml) {w : Nat} (hw : w < nW ti) : ∃ r, cS ro (d + 1) 100 [.ref 12, .int (nI w)] mi ml (some (.long r)) mi ml ∧ ∀ p, b6 r p = pB (cutP ti w p) := by
  have hW := O.W2
  have hL := O.L2
  have hv : vp_in (nI w) 30 := in_of (by omega) (by decide)
  obtain ⟨_, ht, _⟩ := O.w w hw
  by_cases c : ti 13 w = 0 ∨ ti 13 w = 2
  · have h3 : ¬ ti 13 w = 3 := by rcases c with c | c <;> rw [c] <;> decide
    rcases ht with ⟨h, _⟩ | ⟨_, l, hl, ht⟩
    · exact absurd h h3
    · refine ⟨(1 : Int64) <<< ((nI l).toInt64 &&& 63), ab_sem_q rfl rfl (fun Q hQ => vc_X10_cut_0 _ mi ml ?_), fun p => ?_⟩
      · simp (disch := omega) only [H.e13, H.e14, ht, hv, nI_ltI, nI_eq, nI_clamp, nI_1, xl_0, xg_0, xe_0, xe_m1, nI_0, xl_1, xl_2, xl_3, xl_4, xl_5, xl_6, xl_7, xl_8, xl_9, xl_10, xl_12, xl_20, xl_30, xl_32, xl_40, xl_41, xl_42, xl_48, xl_57, xl_59, xl_64, xl_97, xl_100, xl_122, xl_126, xl_128, xl_1000, xl_9999, xg_1, xg_2, xg_3, xg_4, xg_5, xg_6, xg_7, xg_8, xg_9, xg_10, xg_12, xg_20, xg_30, xg_32, xg_40, xg_41, xg_42, xg_48, xg_57, xg_59, xg_64, xg_97, xg_100, xg_122, xg_126, xg_128, xg_1000, xg_9999, xe_1, xe_2, xe_3, xe_4, xe_5, xe_6, xe_7, xe_8, xe_9, xe_10, xe_12, xe_20, xe_30, xe_32, xe_40, xe_41, xe_42, xe_48, xe_57, xe_59, xe_64, xe_97, xe_100, xe_122, xe_126, xe_128, xe_1000, xe_9999, true_implies, false_implies, not_true_eq_false, not_false_eq_true, and_true, true_and, forall_const, imp_self, lc_eq, implies_true, vin, Bool.true_eq_false, Bool.false_eq_true, false_and, and_false, or_false, false_or, or_true, true_or]
        rcases c with c | c
        · exact ⟨fun _ => hQ, fun h => absurd c h⟩
        · refine ⟨fun _ => hQ, fun _ => ⟨fun _ => hQ, fun h => absurd c h⟩⟩
      · rw [b6_bit (by omega)]
        apply pB_eq
        unfold cutP
        rw [ht, nI_clamp (by omega), decide_eq_true_iff]
        exact ⟨fun h => ⟨c, h⟩, fun h => h.2⟩
  · refine ⟨0, ab_sem_q rfl rfl (fun Q hQ => vc_X10_cut_0 _ mi ml ?_), fun p => ?_⟩
    · simp (disch := omega) only [H.e13, H.e14, hv, nI_ltI, nI_eq, nI_clamp, nI_1, xl_0, xg_0, xe_0, xe_m1, nI_0, xl_1, xl_2, xl_3, xl_4, xl_5, xl_6, xl_7, xl_8, xl_9, xl_10, xl_12, xl_20, xl_30, xl_32, xl_40, xl_41, xl_42, xl_48, xl_57, xl_59, xl_64, xl_97, xl_100, xl_122, xl_126, xl_128, xl_1000, xl_9999, xg_1, xg_2, xg_3, xg_4, xg_5, xg_6, xg_7, xg_8, xg_9, xg_10, xg_12, xg_20, xg_30, xg_32, xg_40, xg_41, xg_42, xg_48, xg_57, xg_59, xg_64, xg_97, xg_100, xg_122, xg_126, xg_128, xg_1000, xg_9999, xe_1, xe_2, xe_3, xe_4, xe_5, xe_6, xe_7, xe_8, xe_9, xe_10, xe_12, xe_20, xe_30, xe_32, xe_40, xe_41, xe_42, xe_48, xe_57, xe_59, xe_64, xe_97, xe_100, xe_122, xe_126, xe_128, xe_1000, xe_9999, true_implies, false_implies, not_true_eq_false, not_false_eq_true, and_true, true_and, forall_const, imp_self, lc_eq, implies_true, vin, Bool.true_eq_false, Bool.false_eq_true, false_and, and_false, or_false, false_or, or_true, true_or]
      refine ⟨fun h => absurd (Or.inl h) c, fun _ => ⟨fun h => absurd (Or.inr h) c, fun _ => hQ⟩⟩
    · rw [b6_0, eq_comm, pB_f]
      exact fun h => c h.1
theorem s_fill (H : eqP ti tl mi ml) {w : Nat} (hw : w < 30) : ∃ r, cS ro (d + 1) 101 [.ref 12, .int (nI w)] mi ml (some (.long r)) mi ml ∧ ∀ p, b6 r p = pB (filP ti w p) := by
  have hv : vp_in (nI w) 30 := in_of (by omega) (by decide)
  by_cases c : ti 13 w = 2 ∨ ti 13 w = 3
  · refine ⟨(1 : Int64) <<< ((nI (12 + w)).toInt64 &&& 63), ab_sem_q rfl rfl (fun Q hQ => vc_X10_fill_0 _ mi ml ?_), fun p => ?_⟩
    · simp (disch := omega) only [H.e13, H.e14, hv, n12, nI_ltI, nI_eq, nI_clamp, nI_1, xl_0, xg_0, xe_0, xe_m1, nI_0, xl_1, xl_2, xl_3, xl_4, xl_5, xl_6, xl_7, xl_8, xl_9, xl_10, xl_12, xl_20, xl_30, xl_32, xl_40, xl_41, xl_42, xl_48, xl_57, xl_59, xl_64, xl_97, xl_100, xl_122, xl_126, xl_128, xl_1000, xl_9999, xg_1, xg_2, xg_3, xg_4, xg_5, xg_6, xg_7, xg_8, xg_9, xg_10, xg_12, xg_20, xg_30, xg_32, xg_40, xg_41, xg_42, xg_48, xg_57, xg_59, xg_64, xg_97, xg_100, xg_122, xg_126, xg_128, xg_1000, xg_9999, xe_1, xe_2, xe_3, xe_4, xe_5, xe_6, xe_7, xe_8, xe_9, xe_10, xe_12, xe_20, xe_30, xe_32, xe_40, xe_41, xe_42, xe_48, xe_57, xe_59, xe_64, xe_97, xe_100, xe_122, xe_126, xe_128, xe_1000, xe_9999, true_implies, false_implies, not_true_eq_false, not_false_eq_true, and_true, true_and, forall_const, imp_self, lc_eq, implies_true, vin, Bool.true_eq_false, Bool.false_eq_true, false_and, and_false, or_false, false_or, or_true, true_or]
      rcases c with c | c
      · exact ⟨fun _ => hQ, fun h => absurd c h⟩
      · refine ⟨fun _ => hQ, fun _ => ⟨fun _ => hQ, fun h => absurd c h⟩⟩
    · rw [b6_bit (by omega)]
      apply pB_eq
      unfold filP
      rw [decide_eq_true_iff]
      exact ⟨fun h => ⟨c, h⟩, fun h => h.2⟩
  · refine ⟨0, ab_sem_q rfl rfl (fun Q hQ => vc_X10_fill_0 _ mi ml ?_), fun p => ?_⟩
    · simp (disch := omega) only [H.e13, H.e14, hv, nI_ltI, nI_eq, nI_clamp, nI_1, xl_0, xg_0, xe_0, xe_m1, nI_0, xl_1, xl_2, xl_3, xl_4, xl_5, xl_6, xl_7, xl_8, xl_9, xl_10, xl_12, xl_20, xl_30, xl_32, xl_40, xl_41, xl_42, xl_48, xl_57, xl_59, xl_64, xl_97, xl_100, xl_122, xl_126, xl_128, xl_1000, xl_9999, xg_1, xg_2, xg_3, xg_4, xg_5, xg_6, xg_7, xg_8, xg_9, xg_10, xg_12, xg_20, xg_30, xg_32, xg_40, xg_41, xg_42, xg_48, xg_57, xg_59, xg_64, xg_97, xg_100, xg_122, xg_126, xg_128, xg_1000, xg_9999, xe_1, xe_2, xe_3, xe_4, xe_5, xe_6, xe_7, xe_8, xe_9, xe_10, xe_12, xe_20, xe_30, xe_32, xe_40, xe_41, xe_42, xe_48, xe_57, xe_59, xe_64, xe_97, xe_100, xe_122, xe_126, xe_128, xe_1000, xe_9999, true_implies, false_implies, not_true_eq_false, not_false_eq_true, and_true, true_and, forall_const, imp_self, lc_eq, implies_true, vin, Bool.true_eq_false, Bool.false_eq_true, false_and, and_false, or_false, false_or, or_true, true_or]
      refine ⟨fun h => absurd (Or.inl h) c, fun _ => ⟨fun h => absurd (Or.inr h) c, fun _ => hQ⟩⟩
    · rw [b6_0, eq_comm, pB_f]
      exact fun h => c h.1
theorem b6_whole {n : Nat} (h : n ≤ 12) (p : Nat) : b6 ((1 : Int64) <<< ((nI n).toInt64 &&& 63) - 1) p = decide (p < n) := by
  by_cases hp : p < 64
  · exact b6_low n (by omega) p hp
  · rw [b6_ge _ (by omega)]
    simp
    omega
theorem b6_put (a c f : Int64) (p : Nat) : b6 ((a &&& (c ^^^ (-1))) ||| f) p = ((b6 a p && !b6 c p) || b6 f p) := by
  by_cases hp : p < 64
  · rw [b6_or, b6_and, b6_not _ hp]
  · rw [b6_ge _ (by omega), b6_ge a (by omega), b6_ge f (by omega)]; rfl
theorem s_wholeT (O : okT ti) (H : eqP ti tl mi ml) : ∃ r, cS ro (d + 1) 48 [.ref 9] mi ml (some (.long r)) mi ml ∧ ∀ p, b6 r p = decide (p < nL ti) := by
  refine ⟨_, s_whole, fun p => ?_⟩
  rw [H.e93, O.L]
  exact b6_whole O.L2 p
theorem s_lawByWish (O : okT ti) (H : eqP ti tl mi ml) {w : Nat} (hw : w < nW ti) : ∃ r, cS ro (d + 2) 28 [.ref 25, .int (nI w)] mi ml (some (.long r)) mi ml ∧ b6 r = LK ti (fun x => x = w) := by
  have hW := O.W2
  obtain ⟨r1, s1, h1⟩ := s_wholeT (ro := ro) (d := d) O H
  obtain ⟨r2, s2, h2⟩ := s_cut (ro := ro) (d := d) O H hw
  obtain ⟨r3, s3, h3⟩ := s_fill (ro := ro) (d := d) H (w := w) (by omega)
  refine ⟨_, ab_sem_q rfl rfl (fun Q hQ => vc_X4_lawByWish_0 _ mi ml ⟨_, _, _, s1, _, _, _, s2, _, _, _, s3, hQ⟩), ?_⟩
  funext p
  rw [b6_put, h1, h2, h3]
  unfold LK
  apply pB_eq
  rw [Bool.or_eq_true, Bool.and_eq_true, Bool.not_eq_true', pB_f, pB_iff, decide_eq_true_iff]
  constructor
  · rintro (⟨q1, q2⟩ | q)
    · exact Or.inl ⟨q1, fun ⟨x, _, e, q⟩ => q2 (e ▸ q)⟩
    · exact Or.inr ⟨w, hw, rfl, q⟩
  · rintro (⟨q1, q2⟩ | ⟨x, _, e, q⟩)
    · exact Or.inl ⟨q1, fun q => q2 ⟨w, hw, rfl, q⟩⟩
    · exact Or.inr (e ▸ q)
theorem s_askSame (O : okT ti) (H : eqP ti tl mi ml) {v w : Nat} (hv : v < nW ti) (hw : w < nW ti) : ∃ a b, cS ro (d + 4) 27 [.ref 25, .int (nI v), .int (nI w)] mi ml (some (.int (pI (sameP ti tl v w)))) mi (ab_ul (ab_ul ml 9 4 a) 9 5 b) := by
  have hW := O.W2
  have iv : vp_in (nI v) 30 := in_of (by omega) (by decide)
  have iw : vp_in (nI w) 30 := in_of (by omega) (by decide)
  have hsame : ab_ul (ab_ul ml 9 4 (ml 9 4)) 9 5 (ml 9 5) = ml := by
    funext x y
    simp only [ul_app]
    by_cases h : x = 9
    · subst h
      by_cases h5 : y = 5
      · subst h5; simp
      · by_cases h4 : y = 4
        · subst h4; simp
        · simp [h5, h4]
    · simp [h]
  by_cases c : ti 13 v = 1 ∨ ti 13 w = 1
  · refine ⟨ml 9 4, ml 9 5, ?_⟩
    rw [hsame]
    refine ab_sem_q rfl rfl (fun Q hQ => vc_X4_askSame_0 _ _ mi ml ?_)
    simp (disch := omega) only [H.e13, H.e14, iv, iw, nI_ltI, nI_eq, nI_clamp, nI_1, xl_0, xg_0, xe_0, xe_m1, nI_0, xl_1, xl_2, xl_3, xl_4, xl_5, xl_6, xl_7, xl_8, xl_9, xl_10, xl_12, xl_20, xl_30, xl_32, xl_40, xl_41, xl_42, xl_48, xl_57, xl_59, xl_64, xl_97, xl_100, xl_122, xl_126, xl_128, xl_1000, xl_9999, xg_1, xg_2, xg_3, xg_4, xg_5, xg_6, xg_7, xg_8, xg_9, xg_10, xg_12, xg_20, xg_30, xg_32, xg_40, xg_41, xg_42, xg_48, xg_57, xg_59, xg_64, xg_97, xg_100, xg_122, xg_126, xg_128, xg_1000, xg_9999, xe_1, xe_2, xe_3, xe_4, xe_5, xe_6, xe_7, xe_8, xe_9, xe_10, xe_12, xe_20, xe_30, xe_32, xe_40, xe_41, xe_42, xe_48, xe_57, xe_59, xe_64, xe_97, xe_100, xe_122, xe_126, xe_128, xe_1000, xe_9999, true_implies, false_implies, not_true_eq_false, not_false_eq_true, and_true, true_and, forall_const, imp_self, lc_eq, implies_true, vin, Bool.true_eq_false, Bool.false_eq_true, false_and, and_false, or_false, false_or, or_true, true_or]
    refine ⟨fun c1 => ⟨fun c2 => ⟨fun c3 => ?_, fun c3 => ?_⟩, fun c2 => ?_⟩, fun c1 => ⟨fun c2 => ?_, fun c2 => ?_⟩⟩
    · rw [pI_1 (P := sameP ti tl v w) (Or.inl ⟨c, c1.trans c2.symm, c3⟩)] at hQ; exact hQ
    · rw [pI_0] at hQ
      · exact hQ
      · rintro (h | h)
        · exact c3 h.2.2
        · exact h.1 c1
    · rw [pI_0] at hQ
      · exact hQ
      · rintro (h | h)
        · exact c2 (h.2.1 ▸ c1)
        · exact h.1 c1
    · rw [pI_0] at hQ
      · exact hQ
      · rintro (h | h)
        · exact c1 (h.2.1.trans c2)
        · exact h.2.1 c2
    · rcases c with c | c
      · exact absurd c c1
      · exact absurd c c2
  · have c1 : ¬ ti 13 v = 1 := fun h => c (Or.inl h)
    have c2 : ¬ ti 13 w = 1 := fun h => c (Or.inr h)
    obtain ⟨r1, s1, h1⟩ := s_lawByWish (ro := ro) (d := d + 1) O H hv
    obtain ⟨r2, s2, h2⟩ := s_lawByWish (ro := ro) (d := d + 1) O H hw
    refine ⟨oA ml (b6 r2), oB ml (b6 r2), ?_⟩
    refine ab_sem_q rfl rfl (fun Q hQ => vc_X4_askSame_0 _ _ mi ml ?_)
    simp (disch := omega) only [H.e13, H.e14, iv, iw, c1, c2, nI_ltI, nI_eq, nI_clamp, nI_1, xl_0, xg_0, xe_0, xe_m1, nI_0, xl_1, xl_2, xl_3, xl_4, xl_5, xl_6, xl_7, xl_8, xl_9, xl_10, xl_12, xl_20, xl_30, xl_32, xl_40, xl_41, xl_42, xl_48, xl_57, xl_59, xl_64, xl_97, xl_100, xl_122, xl_126, xl_128, xl_1000, xl_9999, xg_1, xg_2, xg_3, xg_4, xg_5, xg_6, xg_7, xg_8, xg_9, xg_10, xg_12, xg_20, xg_30, xg_32, xg_40, xg_41, xg_42, xg_48, xg_57, xg_59, xg_64, xg_97, xg_100, xg_122, xg_126, xg_128, xg_1000, xg_9999, xe_1, xe_2, xe_3, xe_4, xe_5, xe_6, xe_7, xe_8, xe_9, xe_10, xe_12, xe_20, xe_30, xe_32, xe_40, xe_41, xe_42, xe_48, xe_57, xe_59, xe_64, xe_97, xe_100, xe_122, xe_126, xe_128, xe_1000, xe_9999, true_implies, false_implies, not_true_eq_false, not_false_eq_true, and_true, true_and, forall_const, imp_self, lc_eq, implies_true, vin, Bool.true_eq_false, Bool.false_eq_true, false_and, and_false, or_false, false_or, or_true, true_or]
    refine ⟨_, _, _, s1, _, _, _, s2, _, _, _, s_meanSame r1 r2, pI_or _, ?_⟩
    have e : pI (mS ml (b6 r1) (b6 r2)) = pI (sameP ti tl v w) := by
      apply pI_iff
      rw [h1, h2, H.qmS]
      exact ⟨fun h => Or.inr ⟨c1, c2, h⟩, fun h => h.elim (fun h => absurd h.1 c) (fun h => h.2.2)⟩
    rw [e]
    exact hQ
theorem s_touch (O : okT ti) (H : eqP ti tl mi ml) {v w : Nat} (hv : v < nW ti) (hw : w < nW ti) : cS ro (d + 3) 30 [.ref 25, .int (nI v), .int (nI w)] mi ml (some (.int (pI (touP ti tl v w)))) mi ml := by
  have hW := O.W2
  have iv : vp_in (nI v) 30 := in_of (by omega) (by decide)
  have iw : vp_in (nI w) 30 := in_of (by omega) (by decide)
  refine ab_sem_q rfl rfl (fun Q hQ => vc_X4_touch_0 _ _ mi ml ?_)
  simp (disch := omega) only [H.e13, H.e14, iv, iw, n12, nI_ltI, nI_eq, nI_clamp, nI_1, xl_0, xg_0, xe_0, xe_m1, nI_0, xl_1, xl_2, xl_3, xl_4, xl_5, xl_6, xl_7, xl_8, xl_9, xl_10, xl_12, xl_20, xl_30, xl_32, xl_40, xl_41, xl_42, xl_48, xl_57, xl_59, xl_64, xl_97, xl_100, xl_122, xl_126, xl_128, xl_1000, xl_9999, xg_1, xg_2, xg_3, xg_4, xg_5, xg_6, xg_7, xg_8, xg_9, xg_10, xg_12, xg_20, xg_30, xg_32, xg_40, xg_41, xg_42, xg_48, xg_57, xg_59, xg_64, xg_97, xg_100, xg_122, xg_126, xg_128, xg_1000, xg_9999, xe_1, xe_2, xe_3, xe_4, xe_5, xe_6, xe_7, xe_8, xe_9, xe_10, xe_12, xe_20, xe_30, xe_32, xe_40, xe_41, xe_42, xe_48, xe_57, xe_59, xe_64, xe_97, xe_100, xe_122, xe_126, xe_128, xe_1000, xe_9999, true_implies, false_implies, not_true_eq_false, not_false_eq_true, and_true, true_and, forall_const, imp_self, lc_eq, implies_true, vin, Bool.true_eq_false, Bool.false_eq_true, false_and, and_false, or_false, false_or, or_true, true_or]
  refine ⟨fun c1 => ?_, fun c1 => ⟨fun c2 => ⟨fun c3 => ⟨fun c4 => ⟨_, _, _, s_alike (p := 12 + v) (q := 12 + w) (by omega) (by omega), ?_⟩, fun c4 => ?_⟩, fun c3 => ?_⟩, fun c2 => ?_⟩⟩
  · rw [pI_0 (fun h => h.1 c1)] at hQ; exact hQ
  · rw [pI_e0, H.qmB, H.f10, H.f11]
    refine ⟨fun c5 => ?_, fun c5 => ?_⟩
    · rw [pI_1 ⟨c1, c2, Or.inr ⟨c4, c5⟩⟩] at hQ; exact hQ
    · rw [pI_0 (fun h => h.2.2.elim (fun h => h c3) (fun h => c5 h.2))] at hQ; exact hQ
  · rw [pI_0 (fun h => h.2.2.elim (fun h => h c3) (fun h => c4 h.1))] at hQ; exact hQ
  · rw [pI_1 ⟨c1, c2, Or.inl c3⟩] at hQ; exact hQ
  · rw [pI_0 (fun h => c2 h.2.1)] at hQ; exact hQ
/-- the groups found so far are led by l -/
def gF (ti : cM1) (l : List Nat) (mi : cM1) (ml : cM2) : Prop := mi 25 4 = nI l.length ∧ (∀ g, g < l.length → mi 27 g = nI (l.getD g 0)) ∧ (∀ g, g < l.length → ∀ p, b6 (ml 28 g) p = pB (cutP ti (l.getD g 0) p)) ∧ (∀ g, g < l.length → ∀ p, b6 (ml 29 g) p = pB (filP ti (l.getD g 0) p))
theorem gF.ul {l : List Nat} (G : gF ti l mi ml) {k j : Nat} (v : Int64) (h : (Nat.beq k 28 || Nat.beq k 29) = false) : gF ti l mi (ab_ul ml k j v) := by
  have h1 : ¬ 28 = k := fun e => by rw [← e] at h; cases h
  have h2 : ¬ 29 = k := fun e => by rw [← e] at h; cases h
  refine ⟨G.1, G.2.1, fun g hg p => ?_, fun g hg p => ?_⟩
  · rw [ul_app, if_neg h1]; exact G.2.2.1 g hg p
  · rw [ul_app, if_neg h2]; exact G.2.2.2 g hg p
theorem getD_snoc (l : List Nat) (n g : Nat) : (l ++ [n]).getD g 0 = if g < l.length then l.getD g 0 else if g = l.length then n else 0 := by
  simp only [List.getD_eq_getElem?_getD, List.getElem?_append]
  by_cases h : g < l.length
  · simp [h]
  · by_cases h2 : g = l.length
    · simp [h2]
    · have : 1 ≤ g - l.length := by omega
      have e : [n][g - l.length]? = none := List.getElem?_eq_none (by simpa using this)
      simp [h, h2, e]
theorem ofG_ldr (hs : seenP ti d) : ofG ti tl d = nI (gix ti tl d) := by
  unfold ofG
  rw [pB_iff.2 hs]; rfl
set_option maxHeartbeats 1000000 in
theorem s_join (O : okT ti) (H : eqP ti tl mi ml) {n : Nat} (hn : n < nW ti) (hs : seenP ti n) (G : gF ti (ldr ti tl n) mi ml) : ∃ mi' ml', cS ro (d + 5) 26 [.ref 25, .int (nI n)] mi ml (some (.int (nI (gix ti tl n)))) mi' ml' ∧ eqP ti tl mi' ml' ∧ gF ti (ldr ti tl (n + 1)) mi' ml' ∧ mi' 26 = mi 26 := by
  have hW := O.W2
  have hlen := ldr_le ti tl n
  have hlt := ldr_lt ti tl n
  generalize hl : ldr ti tl n = l at *
  have hget : ∀ g, g < l.length → l.getD g 0 ∈ l := fun g hg => by
    rw [gD hg]; exact List.getElem_mem hg
  have hgix : gix ti tl n = l.findIdx (fun v => pB (sameP ti tl v n)) := by unfold gix; rw [hl]
  refine ab_ex_q rfl rfl (fun Q hQ => vc_X4_join_0 _ mi ml ?_)
  refine up0 (n := l.length) (F := fun i => (∀ j, j < i → ¬ sameP ti tl (l.getD j 0) n) → ∀ ml, eqP ti tl mi ml → gF ti l mi ml → W_X4_join_2 (cs ro (d + 4)) ro Q (nI n) (nI i) mi ml) (fun i hi ih hno ml H G => ?_) (fun hno ml H G => ?_) (fun j hj => absurd hj (Nat.not_lt_zero j)) ml H G
  · refine vc_X4_join_2 _ _ mi ml ?_
    have hv := (hlt _ (hget i hi)).1
    obtain ⟨a, b, hask⟩ := s_askSame (ro := ro) (d := d) O H (v := l.getD i 0) (w := n) (by omega) hn
    simp (disch := omega) only [G.1, hi, G.2.1 i hi, nI_ltI, nI_eq, nI_clamp, nI_1, xl_0, xg_0, xe_0, xe_m1, nI_0, xl_1, xl_2, xl_3, xl_4, xl_5, xl_6, xl_7, xl_8, xl_9, xl_10, xl_12, xl_20, xl_30, xl_32, xl_40, xl_41, xl_42, xl_48, xl_57, xl_59, xl_64, xl_97, xl_100, xl_122, xl_126, xl_128, xl_1000, xl_9999, xg_1, xg_2, xg_3, xg_4, xg_5, xg_6, xg_7, xg_8, xg_9, xg_10, xg_12, xg_20, xg_30, xg_32, xg_40, xg_41, xg_42, xg_48, xg_57, xg_59, xg_64, xg_97, xg_100, xg_122, xg_126, xg_128, xg_1000, xg_9999, xe_1, xe_2, xe_3, xe_4, xe_5, xe_6, xe_7, xe_8, xe_9, xe_10, xe_12, xe_20, xe_30, xe_32, xe_40, xe_41, xe_42, xe_48, xe_57, xe_59, xe_64, xe_97, xe_100, xe_122, xe_126, xe_128, xe_1000, xe_9999, true_implies, false_implies, not_true_eq_false, not_false_eq_true, and_true, true_and, forall_const, imp_self, lc_eq, implies_true, vin, Bool.true_eq_false, Bool.false_eq_true, false_and, and_false, or_false, false_or, or_true, true_or]
    refine ⟨_, _, _, hask, ?_⟩
    rw [pI_e0]
    refine ⟨fun c => ?_, fun c => ?_⟩
    · refine ih (fun j hj => ?_) _ ((H.ul _ rfl).ul _ rfl) ((G.ul _ rfl).ul _ rfl)
      rcases Nat.lt_or_eq_of_le (Nat.le_of_lt_succ hj) with h | h
      · exact hno j h
      · rw [h]; exact c
    · have c' := Classical.not_not.1 c
      have hfi : l.findIdx (fun v => pB (sameP ti tl v n)) = i := by
        rw [List.findIdx_eq hi]
        refine ⟨?_, fun j hj => ?_⟩
        · rw [← gD hi]; exact pB_iff.2 c'
        · rw [← gD (by omega)]; exact pB_f.2 (hno j hj)
      rw [hgix, hfi] at hQ
      refine hQ _ _ ⟨(H.ul _ rfl).ul _ rfl, ?_, rfl⟩
      rw [ldr_s, hl]
      have : pB (seenP ti n ∧ ∀ v ∈ l, ¬ sameP ti tl v n) = false := pB_f.2 (fun h => h.2 _ (hget i hi) c')
      rw [this]
      exact (G.ul _ rfl).ul _ rfl
  · refine vc_X4_join_2 _ _ mi ml ?_
    have H1 : eqP ti tl (ab_ui mi 27 l.length (nI n)) ml := H.ui _ rfl
    obtain ⟨r1, s1, h1⟩ := s_cut (ro := ro) (d := d + 3) O H1 hn
    have H2 : eqP ti tl (ab_ui mi 27 l.length (nI n)) (ab_ul ml 28 l.length r1) := H1.ul _ rfl
    obtain ⟨r2, s2, h2⟩ := s_fill (ro := ro) (d := d + 3) H2 (w := n) (by omega)
    simp (disch := omega) only [G.1, Nat.lt_irrefl, show l.length < 30 by omega, nI_ltI, nI_eq, nI_clamp, nI_1, xl_0, xg_0, xe_0, xe_m1, nI_0, xl_1, xl_2, xl_3, xl_4, xl_5, xl_6, xl_7, xl_8, xl_9, xl_10, xl_12, xl_20, xl_30, xl_32, xl_40, xl_41, xl_42, xl_48, xl_57, xl_59, xl_64, xl_97, xl_100, xl_122, xl_126, xl_128, xl_1000, xl_9999, xg_1, xg_2, xg_3, xg_4, xg_5, xg_6, xg_7, xg_8, xg_9, xg_10, xg_12, xg_20, xg_30, xg_32, xg_40, xg_41, xg_42, xg_48, xg_57, xg_59, xg_64, xg_97, xg_100, xg_122, xg_126, xg_128, xg_1000, xg_9999, xe_1, xe_2, xe_3, xe_4, xe_5, xe_6, xe_7, xe_8, xe_9, xe_10, xe_12, xe_20, xe_30, xe_32, xe_40, xe_41, xe_42, xe_48, xe_57, xe_59, xe_64, xe_97, xe_100, xe_122, xe_126, xe_128, xe_1000, xe_9999, true_implies, false_implies, not_true_eq_false, not_false_eq_true, and_true, true_and, forall_const, imp_self, lc_eq, implies_true, vin, Bool.true_eq_false, Bool.false_eq_true, false_and, and_false, or_false, false_or, or_true, true_or]
    refine ⟨_, _, _, s1, _, _, _, s2, ?_⟩
    have e25 : ab_ui mi 27 l.length (nI n) 25 4 = nI l.length := by rw [ui_app, if_neg (by decide)]; exact G.1
    have hfi : l.findIdx (fun v => pB (sameP ti tl v n)) = l.length := by
      rw [List.findIdx_eq_length]
      intro v hv
      obtain ⟨j, hj, e⟩ := List.getElem_of_mem hv
      rw [← e, ← gD hj]
      exact pB_f.2 (hno j hj)
    rw [hgix, hfi] at hQ
    rw [e25, nI_1, nI_pred, nI_clamp (by omega)]
    refine ⟨in_of (by omega) (by decide), hQ _ _ ⟨(H2.ul _ rfl).ui _ rfl, ?_, ?_⟩⟩
    · rw [ldr_s, hl]
      have : pB (seenP ti n ∧ ∀ v ∈ l, ¬ sameP ti tl v n) = true := pB_iff.2 ⟨hs, fun v hv => by
        obtain ⟨j, hj, e⟩ := List.getElem_of_mem hv
        rw [← e, ← gD hj]
        exact hno j hj⟩
      rw [this]
      show gF ti (l ++ [n]) _ _
      have hlen2 : (l ++ [n]).length = l.length + 1 := by simp
      refine ⟨?_, fun g hg => ?_, fun g hg p => ?_, fun g hg p => ?_⟩
      · rw [hlen2, ui_app]; simp
      · rw [getD_snoc, ui_app, ui_app]
        rw [hlen2] at hg
        by_cases h : g < l.length
        · have : ¬ g = l.length := by omega
          simp [h, this]; simpa [h] using G.2.1 g h
        · have : g = l.length := by omega
          simp [this]
      · rw [getD_snoc, ul_app, ul_app]
        rw [hlen2] at hg
        by_cases h : g < l.length
        · have : ¬ g = l.length := by omega
          simp [h, this]; simpa [h] using G.2.2.1 g h p
        · have : g = l.length := by omega
          simp [this]; exact h1 p
      · rw [getD_snoc, ul_app, ul_app]
        rw [hlen2] at hg
        by_cases h : g < l.length
        · have : ¬ g = l.length := by omega
          simp [h, this]; simpa [h] using G.2.2.2 g h p
        · have : g = l.length := by omega
          simp [this]; exact h2 p
    · funext j
      simp [ui_app]
end GA
