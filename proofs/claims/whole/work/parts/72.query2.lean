/-! More questions. -/
section Q2
variable {ro : ab_E} {d : Nat} {ti mi vi : cM1} {tl ml vl : cM2}
theorem anL_ext {f : Nat → Int64} {P Q : Nat → Bool} {n m : Nat} (hnm : n ≤ m) (h : ∀ p, p < n → P p = Q p) (h2 : ∀ p, n ≤ p → p < m → Q p = false) : anL f P n = anL f Q m := by
  apply anL_congr
  intro j _
  constructor
  · intro q p hp hq
    by_cases e : p < n
    · exact q p e (by rw [h p e]; exact hq)
    · rw [h2 p (by omega) hp] at hq; cases hq
  · intro q p hp hq
    exact q p (by omega) (by rw [← h p hp]; exact hq)
set_option maxHeartbeats 1000000 in
theorem s_meansSame (O : okT ti) (OM : okM ti tl) (H : eqM ti tl vi vl mi ml) (x : Int32) : cS ro (d + 1) 207 [.ref 40, .int x, .long (oA tl (fun p => decide (p < nL ti))), .long (oB tl (fun p => decide (p < nL ti)))] mi ml (some (.int (pI (mS tl (fun p => decide (p < nL ti) && b3 x p) (fun p => decide (p < nL ti)))))) mi ml := by
  have hL := O.L2
  have e12 : mi 40 12 = nI (nL ti) := by rw [H.s12, OM.s12, O.L]
  refine ab_sem_q rfl rfl (fun Q hQ => vc_X12_meansSame_0 _ _ _ mi ml ?_)
  generalize hA : oA tl (fun p => decide (p < nL ti)) = A at *
  generalize hB : oB tl (fun p => decide (p < nL ti)) = B at *
  have eA : ∀ f : Nat → Int64, anL f (fun p => b3 x p && !mB tl p) (nL ti) = anL f (fun p => (decide (p < nL ti) && b3 x p) && !mB tl p) 42 := fun f => anL_ext (by omega) (fun p hp => by simp [hp]) (fun p h1 h2 => by simp [show ¬ p < nL ti by omega])
  refine up0 (n := nL ti) (F := fun i => W_X12_meansSame_13 (cs ro d) ro Q x A B (anL (tl 10) (fun p => b3 x p && !mB tl p) i) (anL (tl 11) (fun p => b3 x p && !mB tl p) i) (nI i) mi ml) (fun i hi ih => ?_) ?_
  · refine vc_X12_meansSame_13 _ _ _ _ _ _ mi ml ?_
    obtain ⟨q1, q2, q3⟩ := OM.l i hi
    have st : ∀ f : Nat → Int64, anL f (fun p => b3 x p && !mB tl p) (i + 1) = if (b3 x i && !mB tl i) = true then anL f (fun p => b3 x p && !mB tl p) i &&& f i else anL f (fun p => b3 x p && !mB tl p) i := fun f => rfl
    rw [st, st] at ih
    simp (disch := omega) only [e12, hi, b3_a1, H.e46, H.f47, H.f48, q1, q2, q3, bI_0, nI_ltI, nI_eq, nI_clamp, nI_1, xl_0, xg_0, xe_0, xe_m1, nI_0, xl_1, xl_2, xl_3, xl_4, xl_5, xl_6, xl_7, xl_8, xl_9, xl_10, xl_12, xl_20, xl_30, xl_32, xl_40, xl_41, xl_42, xl_48, xl_57, xl_59, xl_64, xl_97, xl_100, xl_122, xl_126, xl_128, xl_1000, xl_9999, xg_1, xg_2, xg_3, xg_4, xg_5, xg_6, xg_7, xg_8, xg_9, xg_10, xg_12, xg_20, xg_30, xg_32, xg_40, xg_41, xg_42, xg_48, xg_57, xg_59, xg_64, xg_97, xg_100, xg_122, xg_126, xg_128, xg_1000, xg_9999, xe_1, xe_2, xe_3, xe_4, xe_5, xe_6, xe_7, xe_8, xe_9, xe_10, xe_12, xe_20, xe_30, xe_32, xe_40, xe_41, xe_42, xe_48, xe_57, xe_59, xe_64, xe_97, xe_100, xe_122, xe_126, xe_128, xe_1000, xe_9999, true_implies, false_implies, not_true_eq_false, not_false_eq_true, and_true, true_and, forall_const, imp_self, lc_eq, implies_true, vin, Bool.true_eq_false, Bool.false_eq_true, false_and, and_false, or_false, false_or, or_true, true_or]
    refine ⟨fun c => ⟨fun c2 => ?_, fun c2 => ?_⟩, fun c => ?_⟩
    · rw [c2, Bool.and_false, if_neg (by decide), if_neg (by decide)] at ih; exact ih
    · have c3 : (!mB tl i) = true := by simpa using c2
      rw [c, c3, if_pos (by decide), if_pos (by decide)] at ih; exact ih
    · have c3 : b3 x i = false := by simpa using c
      rw [c3, Bool.false_and, if_neg (by decide), if_neg (by decide)] at ih; exact ih
  · refine vc_X12_meansSame_13 _ _ _ _ _ _ mi ml ?_
    simp (disch := omega) only [e12, Nat.lt_irrefl, nI_ltI, nI_eq, nI_clamp, nI_1, xl_0, xg_0, xe_0, xe_m1, nI_0, xl_1, xl_2, xl_3, xl_4, xl_5, xl_6, xl_7, xl_8, xl_9, xl_10, xl_12, xl_20, xl_30, xl_32, xl_40, xl_41, xl_42, xl_48, xl_57, xl_59, xl_64, xl_97, xl_100, xl_122, xl_126, xl_128, xl_1000, xl_9999, xg_1, xg_2, xg_3, xg_4, xg_5, xg_6, xg_7, xg_8, xg_9, xg_10, xg_12, xg_20, xg_30, xg_32, xg_40, xg_41, xg_42, xg_48, xg_57, xg_59, xg_64, xg_97, xg_100, xg_122, xg_126, xg_128, xg_1000, xg_9999, xe_1, xe_2, xe_3, xe_4, xe_5, xe_6, xe_7, xe_8, xe_9, xe_10, xe_12, xe_20, xe_30, xe_32, xe_40, xe_41, xe_42, xe_48, xe_57, xe_59, xe_64, xe_97, xe_100, xe_122, xe_126, xe_128, xe_1000, xe_9999, true_implies, false_implies, not_true_eq_false, not_false_eq_true, and_true, true_and, forall_const, imp_self, lc_eq, implies_true, vin, Bool.true_eq_false, Bool.false_eq_true, false_and, and_false, or_false, false_or, or_true, true_or]
    rw [eA, eA]
    have a1 : anL (tl 10) (fun p => (decide (p < nL ti) && b3 x p) && !mB tl p) 42 = oA tl (fun p => decide (p < nL ti) && b3 x p) := rfl
    have b1 : anL (tl 11) (fun p => (decide (p < nL ti) && b3 x p) && !mB tl p) 42 = oB tl (fun p => decide (p < nL ti) && b3 x p) := rfl
    rw [a1, b1]
    refine ⟨fun c1 => ⟨fun c2 => ?_, fun c2 => ?_⟩, fun c1 => ?_⟩
    · -- the mays
      have hiff : mS tl (fun p => decide (p < nL ti) && b3 x p) (fun p => decide (p < nL ti)) ↔ ∀ l, l < nL ti → mB tl l = true → ∃ k, k < nL ti ∧ b3 x k = true ∧ mB tl k = true ∧ tl 10 k = tl 10 l ∧ tl 11 k = tl 11 l := by
        constructor
        · intro h l hl hm
          obtain ⟨k, k1, k2, k3, k4, k5⟩ := h.2.2.1 l (by omega) (by simpa using hl) hm
          rw [Bool.and_eq_true, decide_eq_true_iff] at k2
          exact ⟨k, k2.1, k2.2, k3, k4.symm, k5.symm⟩
        · intro h
          refine ⟨c1.trans hA.symm, c2.trans hB.symm, fun p hp h1 h2 => ?_, fun p hp h1 h2 => ?_⟩
          · obtain ⟨k, k1, k2, k3, k4, k5⟩ := h p (by simpa using h1) h2
            exact ⟨k, by omega, by rw [Bool.and_eq_true, decide_eq_true_iff]; exact ⟨k1, k2⟩, k3, k4.symm, k5.symm⟩
          · rw [Bool.and_eq_true] at h1
            exact ⟨p, hp, h1.1, h2, rfl, rfl⟩
      rw [pI_iff hiff] at hQ
      refine up0 (n := nL ti) (F := fun l => (∀ j, j < l → mB tl j = true → ∃ k, k < nL ti ∧ b3 x k = true ∧ mB tl k = true ∧ tl 10 k = tl 10 j ∧ tl 11 k = tl 11 j) → W_X12_meansSame_92 (cs ro d) ro Q x A B (oA tl (fun p => decide (p < nL ti) && b3 x p)) (oB tl (fun p => decide (p < nL ti) && b3 x p)) (nI l) mi ml) (fun l hl ih hyes => ?_) (fun hyes => ?_) (fun j hj => absurd hj (Nat.not_lt_zero j))
      · refine vc_X12_meansSame_92 _ _ _ _ _ _ mi ml ?_
        obtain ⟨q1, q2, q3⟩ := OM.l l hl
        simp (disch := omega) only [e12, hl, H.e46, q1, nI_ltI, nI_eq, nI_clamp, nI_1, xl_0, xg_0, xe_0, xe_m1, nI_0, xl_1, xl_2, xl_3, xl_4, xl_5, xl_6, xl_7, xl_8, xl_9, xl_10, xl_12, xl_20, xl_30, xl_32, xl_40, xl_41, xl_42, xl_48, xl_57, xl_59, xl_64, xl_97, xl_100, xl_122, xl_126, xl_128, xl_1000, xl_9999, xg_1, xg_2, xg_3, xg_4, xg_5, xg_6, xg_7, xg_8, xg_9, xg_10, xg_12, xg_20, xg_30, xg_32, xg_40, xg_41, xg_42, xg_48, xg_57, xg_59, xg_64, xg_97, xg_100, xg_122, xg_126, xg_128, xg_1000, xg_9999, xe_1, xe_2, xe_3, xe_4, xe_5, xe_6, xe_7, xe_8, xe_9, xe_10, xe_12, xe_20, xe_30, xe_32, xe_40, xe_41, xe_42, xe_48, xe_57, xe_59, xe_64, xe_97, xe_100, xe_122, xe_126, xe_128, xe_1000, xe_9999, true_implies, false_implies, not_true_eq_false, not_false_eq_true, and_true, true_and, forall_const, imp_self, lc_eq, implies_true, vin, Bool.true_eq_false, Bool.false_eq_true, false_and, and_false, or_false, false_or, or_true, true_or]
        refine up0 (n := nL ti) (F := fun i => ∀ h : Int32, h = pI (mB tl l = false ∨ ∃ k, k < i ∧ b3 x k = true ∧ mB tl k = true ∧ tl 10 k = tl 10 l ∧ tl 11 k = tl 11 l) → W_X12_meansSame_113 (cs ro d) ro Q x A B (oA tl (fun p => decide (p < nL ti) && b3 x p)) (oB tl (fun p => decide (p < nL ti) && b3 x p)) (nI l) h (nI i) mi ml) (fun i hi ih2 h hh => ?_) (fun h hh => ?_) _ ?_
        · refine vc_X12_meansSame_113 _ _ _ _ _ _ _ _ mi ml ?_
          obtain ⟨r1, r2, r3⟩ := OM.l i hi
          simp (disch := omega) only [e12, hi, b3_a1, H.e46, H.f47, H.f48, q2, q3, r1, r2, r3, bI_0, nI_ltI, nI_eq, nI_clamp, nI_1, xl_0, xg_0, xe_0, xe_m1, nI_0, xl_1, xl_2, xl_3, xl_4, xl_5, xl_6, xl_7, xl_8, xl_9, xl_10, xl_12, xl_20, xl_30, xl_32, xl_40, xl_41, xl_42, xl_48, xl_57, xl_59, xl_64, xl_97, xl_100, xl_122, xl_126, xl_128, xl_1000, xl_9999, xg_1, xg_2, xg_3, xg_4, xg_5, xg_6, xg_7, xg_8, xg_9, xg_10, xg_12, xg_20, xg_30, xg_32, xg_40, xg_41, xg_42, xg_48, xg_57, xg_59, xg_64, xg_97, xg_100, xg_122, xg_126, xg_128, xg_1000, xg_9999, xe_1, xe_2, xe_3, xe_4, xe_5, xe_6, xe_7, xe_8, xe_9, xe_10, xe_12, xe_20, xe_30, xe_32, xe_40, xe_41, xe_42, xe_48, xe_57, xe_59, xe_64, xe_97, xe_100, xe_122, xe_126, xe_128, xe_1000, xe_9999, true_implies, false_implies, not_true_eq_false, not_false_eq_true, and_true, true_and, forall_const, imp_self, lc_eq, implies_true, vin, Bool.true_eq_false, Bool.false_eq_true, false_and, and_false, or_false, false_or, or_true, true_or]
          rw [hh, pI_e0]
          have yes : b3 x i = true ∧ mB tl i = true ∧ tl 10 i = tl 10 l ∧ tl 11 i = tl 11 l → W_X12_meansSame_113 (cs ro d) ro Q x A B (oA tl (fun p => decide (p < nL ti) && b3 x p)) (oB tl (fun p => decide (p < nL ti) && b3 x p)) (nI l) 1 (nI (i + 1)) mi ml := fun q => ih2 1 (pI_1 (Or.inr ⟨i, by omega, q⟩)).symm
          have no : ¬ (mB tl l = false ∨ ∃ k, k < i ∧ b3 x k = true ∧ mB tl k = true ∧ tl 10 k = tl 10 l ∧ tl 11 k = tl 11 l) → ¬ (b3 x i = true ∧ mB tl i = true ∧ tl 10 i = tl 10 l ∧ tl 11 i = tl 11 l) → W_X12_meansSame_113 (cs ro d) ro Q x A B (oA tl (fun p => decide (p < nL ti) && b3 x p)) (oB tl (fun p => decide (p < nL ti) && b3 x p)) (nI l) 0 (nI (i + 1)) mi ml := fun h1 h2 => ih2 0 (pI_0 (fun q => by
            rcases q with q | ⟨k, k1, k2⟩
            · exact h1 (Or.inl q)
            · rcases Nat.lt_or_eq_of_le (Nat.le_of_lt_succ k1) with e | e
              · exact h1 (Or.inr ⟨k, e, k2⟩)
              · rw [e] at k2; exact h2 k2)).symm
          refine ⟨fun c0 => ⟨fun c3 => ⟨fun c4 => ⟨fun c5 => ⟨fun c6 => yes ⟨c3, by simpa using c4, c5, c6⟩, fun c6 => no c0 (fun q => c6 q.2.2.2)⟩, fun c5 => no c0 (fun q => c5 q.2.2.1)⟩, fun c4 => no c0 (fun q => c4 (by rw [q.2.1]; rfl))⟩, fun c3 => no c0 (fun q => c3 q.1)⟩, fun c0 => ih2 1 (pI_1 ?_).symm⟩
          rcases Classical.not_not.1 c0 with q | ⟨k, k1, k2⟩
          · exact Or.inl q
          · exact Or.inr ⟨k, by omega, k2⟩
        · refine vc_X12_meansSame_113 _ _ _ _ _ _ _ _ mi ml ?_
          simp (disch := omega) only [e12, Nat.lt_irrefl, nI_ltI, nI_eq, nI_clamp, nI_1, xl_0, xg_0, xe_0, xe_m1, nI_0, xl_1, xl_2, xl_3, xl_4, xl_5, xl_6, xl_7, xl_8, xl_9, xl_10, xl_12, xl_20, xl_30, xl_32, xl_40, xl_41, xl_42, xl_48, xl_57, xl_59, xl_64, xl_97, xl_100, xl_122, xl_126, xl_128, xl_1000, xl_9999, xg_1, xg_2, xg_3, xg_4, xg_5, xg_6, xg_7, xg_8, xg_9, xg_10, xg_12, xg_20, xg_30, xg_32, xg_40, xg_41, xg_42, xg_48, xg_57, xg_59, xg_64, xg_97, xg_100, xg_122, xg_126, xg_128, xg_1000, xg_9999, xe_1, xe_2, xe_3, xe_4, xe_5, xe_6, xe_7, xe_8, xe_9, xe_10, xe_12, xe_20, xe_30, xe_32, xe_40, xe_41, xe_42, xe_48, xe_57, xe_59, xe_64, xe_97, xe_100, xe_122, xe_126, xe_128, xe_1000, xe_9999, true_implies, false_implies, not_true_eq_false, not_false_eq_true, and_true, true_and, forall_const, imp_self, lc_eq, implies_true, vin, Bool.true_eq_false, Bool.false_eq_true, false_and, and_false, or_false, false_or, or_true, true_or]
          rw [hh, pI_e0]
          refine ⟨fun c3 => ?_, fun c3 => ih (fun j hj hm => ?_)⟩
          · rw [pI_0] at hQ
            · exact hQ
            · intro q
              have hm : mB tl l = true := by
                cases e : mB tl l with
                | true => rfl
                | false => exact absurd (Or.inl e) c3
              exact c3 (Or.inr (q l hl hm))
          · rcases Nat.lt_or_eq_of_le (Nat.le_of_lt_succ hj) with e | e
            · exact hyes j e hm
            · rw [e] at hm ⊢
              rcases Classical.not_not.1 c3 with q | q
              · rw [hm] at q; cases q
              · exact q
        · cases e : mB tl l with
          | true => exact (pI_0 (fun q => by rcases q with q | ⟨k, k1, _⟩
                                             · cases q
                                             · exact absurd k1 (Nat.not_lt_zero k))).symm
          | false => exact (pI_1 (Or.inl rfl)).symm
      · refine vc_X12_meansSame_92 _ _ _ _ _ _ mi ml ?_
        simp (disch := omega) only [e12, Nat.lt_irrefl, nI_ltI, nI_eq, nI_clamp, nI_1, xl_0, xg_0, xe_0, xe_m1, nI_0, xl_1, xl_2, xl_3, xl_4, xl_5, xl_6, xl_7, xl_8, xl_9, xl_10, xl_12, xl_20, xl_30, xl_32, xl_40, xl_41, xl_42, xl_48, xl_57, xl_59, xl_64, xl_97, xl_100, xl_122, xl_126, xl_128, xl_1000, xl_9999, xg_1, xg_2, xg_3, xg_4, xg_5, xg_6, xg_7, xg_8, xg_9, xg_10, xg_12, xg_20, xg_30, xg_32, xg_40, xg_41, xg_42, xg_48, xg_57, xg_59, xg_64, xg_97, xg_100, xg_122, xg_126, xg_128, xg_1000, xg_9999, xe_1, xe_2, xe_3, xe_4, xe_5, xe_6, xe_7, xe_8, xe_9, xe_10, xe_12, xe_20, xe_30, xe_32, xe_40, xe_41, xe_42, xe_48, xe_57, xe_59, xe_64, xe_97, xe_100, xe_122, xe_126, xe_128, xe_1000, xe_9999, true_implies, false_implies, not_true_eq_false, not_false_eq_true, and_true, true_and, forall_const, imp_self, lc_eq, implies_true, vin, Bool.true_eq_false, Bool.false_eq_true, false_and, and_false, or_false, false_or, or_true, true_or]
        rw [pI_1 hyes] at hQ
        exact hQ
    · rw [pI_0 (fun h => c2 (h.2.1.trans hB))] at hQ; exact hQ
    · rw [pI_0 (fun h => c1 (h.1.trans hA))] at hQ; exact hQ
theorem low_i {n : Nat} (hn : n ≤ 12) : ((1 : Int32) <<< (nI n &&& 31)) - 1 = nI (2 ^ n - 1) := by
  have h2 : 2 ^ n ≤ 4096 := p12 hn
  apply b3_ext
  intro p hp
  rw [b3_low n (by omega) p hp, b3_nI (by omega), Nat.testBit_two_pow_sub_one]
theorem op_idle (x : Int32) : OP ro 130 208 [.int x] := OPq (fun ti tl O OM => by
  have hL := O.L2
  by_cases c : (∃ w, w < nL ti ∧ x = nI w)
  · obtain ⟨l, hl, rfl⟩ := c
    refine ⟨pI (idP ti tl l), fun mi ml R => ?_, fun vi vl mi ml H => ?_⟩
    · obtain ⟨a, b, s1⟩ := s_isIdle (ro := ro) (d := 35) O R.1 (l := l) (by omega)
      refine ab_ex_q rfl rfl (fun Q hQ => vc_X11_idle_0 _ mi ml ⟨_, _, _, s_isLineC O R.1 _, ?_⟩)
      rw [pI_1 ⟨l, hl, rfl⟩]
      exact ⟨fun q => (by cases q), fun _ => ⟨_, _, _, s1, pI_01 (hQ _ _ (R.op _ _))⟩⟩
    · obtain ⟨mi1, ml1, s1, F, _, a, b, _⟩ := s_buildsLaw (ro := ro) (d := 36) O OM (H.t 0)
      have H1 := (H.t 0).fr F
      have s2 := s_meansSame (ro := ro) (d := 38) O OM H1 ((((1 : Int32) <<< ((mi1 40 12) &&& 31)) - 1) &&& (((1 : Int32) <<< (nI l &&& 31)) ^^^ (-1)))
      have ef : (fun p => decide (p < nL ti) && b3 ((((1 : Int32) <<< ((mi1 40 12) &&& 31)) - 1) &&& (((1 : Int32) <<< (nI l &&& 31)) ^^^ (-1))) p) = (fun p => decide (p < nL ti) && !decide (p = l)) := by
        funext p
        by_cases hp : p < nL ti
        · rw [H1.s12, OM.s12, O.L, b3_and, b3_low (nL ti) (by omega) p (by omega), b3_not _ (by omega), b3_bit (by omega)]
          simp [hp]
        · simp [hp]
      rw [ef] at s2
      refine ab_ex_q rfl rfl (fun Q hQ => vc_X12_idle_0 _ mi ml ?_)
      have e12 : mi 40 12 = nI (nL ti) := by rw [H.s12, OM.s12, O.L]
      simp (disch := omega) only [e12, hl, nI_ltI, nI_eq, nI_clamp, nI_1, xl_0, xg_0, xe_0, xe_m1, nI_0, xl_1, xl_2, xl_3, xl_4, xl_5, xl_6, xl_7, xl_8, xl_9, xl_10, xl_12, xl_20, xl_30, xl_32, xl_40, xl_41, xl_42, xl_48, xl_57, xl_59, xl_64, xl_97, xl_100, xl_122, xl_126, xl_128, xl_1000, xl_9999, xg_1, xg_2, xg_3, xg_4, xg_5, xg_6, xg_7, xg_8, xg_9, xg_10, xg_12, xg_20, xg_30, xg_32, xg_40, xg_41, xg_42, xg_48, xg_57, xg_59, xg_64, xg_97, xg_100, xg_122, xg_126, xg_128, xg_1000, xg_9999, xe_1, xe_2, xe_3, xe_4, xe_5, xe_6, xe_7, xe_8, xe_9, xe_10, xe_12, xe_20, xe_30, xe_32, xe_40, xe_41, xe_42, xe_48, xe_57, xe_59, xe_64, xe_97, xe_100, xe_122, xe_126, xe_128, xe_1000, xe_9999, true_implies, false_implies, not_true_eq_false, not_false_eq_true, and_true, true_and, forall_const, imp_self, lc_eq, implies_true, vin, Bool.true_eq_false, Bool.false_eq_true, false_and, and_false, or_false, false_or, or_true, true_or]
      refine ⟨_, _, s1, ?_⟩
      rw [a, b]
      exact ⟨_, _, _, s2, pI_01 (hQ _ _ H1)⟩
  · refine ⟨-1, fun mi ml R => ?_, fun vi vl mi ml H => ?_⟩
    · refine ab_ex_q rfl rfl (fun Q hQ => vc_X11_idle_0 _ mi ml ⟨_, _, _, s_isLineC O R.1 _, ?_⟩)
      rw [pI_0 c]
      exact ⟨fun _ => hQ _ _ R, fun q => absurd rfl q⟩
    · refine ab_ex_q rfl rfl (fun Q hQ => vc_X12_idle_0 _ mi ml ?_)
      rw [H.s12, OM.s12, O.L]
      exact ⟨fun _ => hQ _ _ (H.t 0), fun c1 => ⟨fun c2 => absurd ((rg2 (by omega)).1 ⟨c1, c2⟩) c, fun _ => hQ _ _ (H.t 0)⟩⟩)
theorem op_fewest (x : Int32) : OP ro 131 209 [.int x] := OPq (fun ti tl O OM => by
  have hL := O.L2
  have h2 : 2 ^ nL ti ≤ 4096 := p12 hL
  by_cases c : (∃ w, w < 1 + 1 ∧ x = nI w)
  · have hf := fbs_lt ti tl (2 ^ nL ti) (Nat.le_refl _)
    have cc := (rg (n := 1) (by decide)).2 c
    refine ⟨if x = 0 then nI (pc (fbs ti tl (2 ^ nL ti))) else nI (fbs ti tl (2 ^ nL ti)), fun mi ml R => ?_, fun vi vl mi ml H => ?_⟩
    · obtain ⟨a, b, s1⟩ := s_fewestAlike (ro := ro) (d := 33) O R.1
      refine ab_ex_q rfl rfl (fun Q hQ => vc_X11_fewest_0 _ mi ml ⟨fun q => absurd q cc.1, fun _ => ⟨fun q => absurd q cc.2, fun _ => ⟨_, _, _, s1, fun c0 => ⟨_, _, _, s_bc3 _, ?_⟩, fun c0 => ?_⟩⟩⟩)
      · rw [pc_32 (by omega)]
        rw [if_pos c0] at hQ
        exact hQ _ _ (R.op _ _)
      · rw [if_neg c0] at hQ
        exact hQ _ _ (R.op _ _)
    · obtain ⟨mi1, ml1, s1, F, _, a, b, _⟩ := s_buildsLaw (ro := ro) (d := 36) O OM (H.t 0)
      have H1 := (H.t 0).fr F
      refine ab_ex_q rfl rfl (fun Q hQ => vc_X12_fewest_0 _ mi ml ⟨_, _, _, s_withinN _ 1 (by decide), ?_⟩)
      rw [pI_1 c]
      refine ⟨fun q => (by cases q), fun _ => ⟨_, _, s1, ?_⟩⟩
      have e12 : mi1 40 12 = nI (nL ti) := by rw [H1.s12, OM.s12, O.L]
      rw [e12, low_i hL]
      refine up0 (n := 2 ^ nL ti) (F := fun m => W_X12_fewest_31 (cs ro 39) ro Q x (nI (fbs ti tl m)) (nI m) mi1 ml1) (fun m hm ih => ?_) ?_
      · refine vc_X12_fewest_31 _ _ _ mi1 ml1 ?_
        have hfm := fbs_lt ti tl m (by omega)
        have s3 := s_meansSame (ro := ro) (d := 38) O OM H1 (nI m)
        have ef : (fun p => decide (p < nL ti) && b3 (nI m) p) = (fun p => decide (p < nL ti) && m.testBit p) := by
          funext p; rw [b3_nI (by omega)]
        rw [ef] at s3
        have hst : fbs ti tl (m + 1) = @ite _ (pc m < pc (fbs ti tl m) ∧ smP ti tl m) (Classical.propDecidable _) m (fbs ti tl m) := rfl
        have p1 := pcn_le (b3 (nI m)) 30
        have p2 := pcn_le (b3 (nI (fbs ti tl m))) 30
        rw [e12, bit_n (by omega)]
        simp (disch := omega) only [hm, nI_ltI, nI_eq, nI_clamp, nI_1, xl_0, xg_0, xe_0, xe_m1, nI_0, xl_1, xl_2, xl_3, xl_4, xl_5, xl_6, xl_7, xl_8, xl_9, xl_10, xl_12, xl_20, xl_30, xl_32, xl_40, xl_41, xl_42, xl_48, xl_57, xl_59, xl_64, xl_97, xl_100, xl_122, xl_126, xl_128, xl_1000, xl_9999, xg_1, xg_2, xg_3, xg_4, xg_5, xg_6, xg_7, xg_8, xg_9, xg_10, xg_12, xg_20, xg_30, xg_32, xg_40, xg_41, xg_42, xg_48, xg_57, xg_59, xg_64, xg_97, xg_100, xg_122, xg_126, xg_128, xg_1000, xg_9999, xe_1, xe_2, xe_3, xe_4, xe_5, xe_6, xe_7, xe_8, xe_9, xe_10, xe_12, xe_20, xe_30, xe_32, xe_40, xe_41, xe_42, xe_48, xe_57, xe_59, xe_64, xe_97, xe_100, xe_122, xe_126, xe_128, xe_1000, xe_9999, true_implies, false_implies, not_true_eq_false, not_false_eq_true, and_true, true_and, forall_const, imp_self, lc_eq, implies_true, vin, Bool.true_eq_false, Bool.false_eq_true, false_and, and_false, or_false, false_or, or_true, true_or]
        refine ⟨_, _, _, s_bits _, _, _, _, s_bits _, ?_⟩
        rw [nI_ltI (by omega) (by omega), a, b]
        refine ⟨fun c2 => ⟨_, _, _, s3, ?_⟩, fun c2 => ?_⟩
        · rw [pI_e0]
          refine ⟨fun c3 => ?_, fun c3 => ?_⟩
          · rw [hst, if_neg (fun q => c3 q.2)] at ih; exact ih
          · rw [hst, if_pos ⟨c2, Classical.not_not.1 c3⟩] at ih; exact ih
        · rw [hst, if_neg (fun q => c2 q.1)] at ih; exact ih
      · refine vc_X12_fewest_31 _ _ _ mi1 ml1 ?_
        rw [e12, bit_n (by omega)]
        simp (disch := omega) only [Nat.lt_irrefl, nI_ltI, nI_eq, nI_clamp, nI_1, xl_0, xg_0, xe_0, xe_m1, nI_0, xl_1, xl_2, xl_3, xl_4, xl_5, xl_6, xl_7, xl_8, xl_9, xl_10, xl_12, xl_20, xl_30, xl_32, xl_40, xl_41, xl_42, xl_48, xl_57, xl_59, xl_64, xl_97, xl_100, xl_122, xl_126, xl_128, xl_1000, xl_9999, xg_1, xg_2, xg_3, xg_4, xg_5, xg_6, xg_7, xg_8, xg_9, xg_10, xg_12, xg_20, xg_30, xg_32, xg_40, xg_41, xg_42, xg_48, xg_57, xg_59, xg_64, xg_97, xg_100, xg_122, xg_126, xg_128, xg_1000, xg_9999, xe_1, xe_2, xe_3, xe_4, xe_5, xe_6, xe_7, xe_8, xe_9, xe_10, xe_12, xe_20, xe_30, xe_32, xe_40, xe_41, xe_42, xe_48, xe_57, xe_59, xe_64, xe_97, xe_100, xe_122, xe_126, xe_128, xe_1000, xe_9999, true_implies, false_implies, not_true_eq_false, not_false_eq_true, and_true, true_and, forall_const, imp_self, lc_eq, implies_true, vin, Bool.true_eq_false, Bool.false_eq_true, false_and, and_false, or_false, false_or, or_true, true_or]
        refine ⟨fun c0 => ⟨_, _, _, s_bits _, ?_⟩, fun c0 => ?_⟩
        · rw [if_pos c0] at hQ; exact hQ _ _ H1
        · rw [if_neg c0] at hQ; exact hQ _ _ H1
  · have cc : ¬ (¬ x < 0 ∧ ¬ nI 1 < x) := fun h => c ((rg (n := 1) (by decide)).1 h)
    refine ⟨-1, fun mi ml R => ?_, fun vi vl mi ml H => ?_⟩
    · exact ab_ex_q rfl rfl (fun Q hQ => vc_X11_fewest_0 _ mi ml ⟨fun _ => hQ _ _ R, fun c1 => ⟨fun _ => hQ _ _ R, fun c2 => absurd ⟨c1, c2⟩ cc⟩⟩)
    · refine ab_ex_q rfl rfl (fun Q hQ => vc_X12_fewest_0 _ mi ml ⟨_, _, _, s_withinN _ 1 (by decide), ?_⟩)
      rw [pI_0 c]
      exact ⟨fun _ => hQ _ _ (H.t 0), fun q => absurd rfl q⟩)
theorem op_clash (x y : Int32) : OP ro 117 214 [.int x, .int y] := OPq (fun ti tl O OM => by
  by_cases c : ((∃ w, w < nG ti tl ∧ x = nI w) ∧ (∃ w, w < nG ti tl ∧ y = nI w) ∧ ¬ x = y)
  · obtain ⟨cx, cy, cn⟩ := c
    obtain ⟨g, hg, rfl⟩ := id cx
    obtain ⟨h, hh, rfl⟩ := id cy
    refine ⟨claN ti tl g h, fun mi ml R => ?_, fun vi vl mi ml H => ?_⟩
    · obtain ⟨mi1, ml1, s1, C1⟩ := s_settle (ro := ro) (d := 32) O R.1 R.2
      obtain ⟨ml2, s2, C2, _⟩ := s_clashOf (ro := ro) (d := 35) O C1 hg hh
      refine ab_ex_q rfl rfl (fun Q hQ => vc_X11_clash_0 _ _ mi ml ⟨_, _, s1, _, _, _, s_isGroupC O C1 _, ?_⟩)
      rw [pI_1 cx]
      refine ⟨fun q => (by cases q), fun _ => ⟨_, _, _, s_isGroupC O C1 _, ?_⟩⟩
      rw [pI_1 cy]
      exact ⟨fun q => (by cases q), fun _ => ⟨fun q => absurd q cn, fun _ => ⟨_, _, _, s2, hQ _ _ C2.r⟩⟩⟩
    · obtain ⟨mi1, ml1, s1, _, M1⟩ := s_findGroups (ro := ro) (d := 35) O OM (H.t 0)
      obtain ⟨mi2, ml2, s2, F2⟩ := s_mclashOf (ro := ro) (d := 36) O OM M1 hg hh
      refine ab_ex_q rfl rfl (fun Q hQ => vc_X12_clash_0 _ _ mi ml ⟨_, _, s1, _, _, _, s_misGroup O M1.2.1 _, ?_⟩)
      rw [pI_1 cx]
      refine ⟨fun q => (by cases q), fun _ => ⟨_, _, _, s_misGroup O M1.2.1 _, ?_⟩⟩
      rw [pI_1 cy]
      exact ⟨fun q => (by cases q), fun _ => ⟨fun q => absurd q cn, fun _ => ⟨_, _, _, s2, hQ _ _ (M1.fr F2).1⟩⟩⟩
  · refine ⟨-1, fun mi ml R => ?_, fun vi vl mi ml H => ?_⟩
    · obtain ⟨mi1, ml1, s1, C1⟩ := s_settle (ro := ro) (d := 32) O R.1 R.2
      refine ab_ex_q rfl rfl (fun Q hQ => vc_X11_clash_0 _ _ mi ml ⟨_, _, s1, _, _, _, s_isGroupC O C1 _, ?_⟩)
      rw [pI_e0]
      refine ⟨fun _ => hQ _ _ C1.r, fun c1 => ⟨_, _, _, s_isGroupC O C1 _, ?_⟩⟩
      rw [pI_e0]
      exact ⟨fun _ => hQ _ _ C1.r, fun c2 => ⟨fun _ => hQ _ _ C1.r, fun c3 => absurd ⟨Classical.not_not.1 c1, Classical.not_not.1 c2, c3⟩ c⟩⟩
    · obtain ⟨mi1, ml1, s1, _, M1⟩ := s_findGroups (ro := ro) (d := 35) O OM (H.t 0)
      refine ab_ex_q rfl rfl (fun Q hQ => vc_X12_clash_0 _ _ mi ml ⟨_, _, s1, _, _, _, s_misGroup O M1.2.1 _, ?_⟩)
      rw [pI_e0]
      refine ⟨fun _ => hQ _ _ M1.1, fun c1 => ⟨_, _, _, s_misGroup O M1.2.1 _, ?_⟩⟩
      rw [pI_e0]
      exact ⟨fun _ => hQ _ _ M1.1, fun c2 => ⟨fun _ => hQ _ _ M1.1, fun c3 => absurd ⟨Classical.not_not.1 c1, Classical.not_not.1 c2, c3⟩ c⟩⟩)
theorem shr_0 {s n : Nat} (hs : s < 2 ^ 31) (hn : n < 31) : (nI s >>> (nI n &&& 31) = 0) = (s < 2 ^ n) := by
  apply propext
  constructor
  · intro h
    apply Nat.lt_of_not_le
    intro hle
    obtain ⟨i, h1, h2⟩ := Nat.exists_ge_and_testBit_of_ge_two_pow hle
    have : b3 (nI s) i = false := b3_done (by omega) h h1
    rw [b3_nI (by omega), h2] at this
    cases this
  · intro h
    rw [b3_zero]
    intro i hi
    by_cases e : n + i < 32
    · rw [b3_shr _ e, b3_nI (by omega)]
      exact Nat.testBit_lt_two_pow (Nat.lt_of_lt_of_le h (Nat.pow_le_pow_right (by decide) (by omega)))
    · have hb := shr3 (nI s) (show n < 32 by omega)
      unfold b3
      rw [hb, BitVec.getLsbD_sshiftRight]
      have hm : (nI s).toBitVec.msb = false := by
        rw [BitVec.msb_eq_getLsbD_last]
        have := b3_nI (show s < 2 ^ 32 by omega) 31
        unfold b3 at this
        rw [this]
        exact Nat.testBit_lt_two_pow hs
      simp [hm, e]
theorem op_together (x : Int32) : OP ro 118 216 [.int x] := OPq (fun ti tl O OM => by
  have hW := O.W2
  have hG := nG_le ti tl
  have hp : 2 ^ nG ti tl ≤ 2 ^ 30 := Nat.pow_le_pow_right (by decide) (by omega)
  have mset : ∀ mi ml (Q : Option Value → ab_S → Prop), mi 40 45 = nI (nG ti tl) → Q (some (.int (pI (∃ s, s < 2 ^ nG ti tl ∧ x = nI s)))) (ab_G mi ml) → W_X12_isSet_0 (cs ro 38) ro Q x mi ml := fun mi ml Q e hQ => by
    refine vc_X12_isSet_0 _ mi ml ?_
    rw [e]
    rcases Nat.lt_or_ge (nG ti tl) 30 with q | q
    · rw [bit_n q]
      rw [← pI_iff (rg2 (by omega))] at hQ
      refine ⟨fun c => ?_, fun c => ⟨fun c2 => ?_, fun c2 => ?_⟩⟩
      · rw [pI_0 (fun h => h.1 c)] at hQ; exact hQ
      · rw [pI_1 ⟨c, c2⟩] at hQ; exact hQ
      · rw [pI_0 (fun h => c2 h.2)] at hQ; exact hQ
    · have e30 : nG ti tl = 30 := by omega
      have eb : (1 : Int32) <<< (nI (nG ti tl) &&& 31) = nI (2 ^ nG ti tl) := by rw [e30]; decide +kernel
      rw [eb]
      rw [← pI_iff (rg2 (by omega))] at hQ
      refine ⟨fun c => ?_, fun c => ⟨fun c2 => ?_, fun c2 => ?_⟩⟩
      · rw [pI_0 (fun h => h.1 c)] at hQ; exact hQ
      · rw [pI_1 ⟨c, c2⟩] at hQ; exact hQ
      · rw [pI_0 (fun h => c2 h.2)] at hQ; exact hQ
  by_cases c : (∃ s, s < 2 ^ nG ti tl ∧ x = nI s)
  · obtain ⟨s, hs, rfl⟩ := id c
    refine ⟨pI (goN ti tl s), fun mi ml R => ?_, fun vi vl mi ml H => ?_⟩
    · obtain ⟨mi1, ml1, s1, C1⟩ := s_settle (ro := ro) (d := 32) O R.1 R.2
      obtain ⟨ml2, s2, C2, _⟩ := s_goesN (ro := ro) (d := 34) O C1 (s := s) (by omega)
      refine ab_ex_q rfl rfl (fun Q hQ => vc_X11_together_0 _ mi ml ⟨_, _, s1, ?_⟩)
      rw [C1.2.1.G, shr_0 (by omega) (by omega)]
      simp (disch := omega) only [hs, nI_ltI, nI_eq, nI_clamp, nI_1, xl_0, xg_0, xe_0, xe_m1, nI_0, xl_1, xl_2, xl_3, xl_4, xl_5, xl_6, xl_7, xl_8, xl_9, xl_10, xl_12, xl_20, xl_30, xl_32, xl_40, xl_41, xl_42, xl_48, xl_57, xl_59, xl_64, xl_97, xl_100, xl_122, xl_126, xl_128, xl_1000, xl_9999, xg_1, xg_2, xg_3, xg_4, xg_5, xg_6, xg_7, xg_8, xg_9, xg_10, xg_12, xg_20, xg_30, xg_32, xg_40, xg_41, xg_42, xg_48, xg_57, xg_59, xg_64, xg_97, xg_100, xg_122, xg_126, xg_128, xg_1000, xg_9999, xe_1, xe_2, xe_3, xe_4, xe_5, xe_6, xe_7, xe_8, xe_9, xe_10, xe_12, xe_20, xe_30, xe_32, xe_40, xe_41, xe_42, xe_48, xe_57, xe_59, xe_64, xe_97, xe_100, xe_122, xe_126, xe_128, xe_1000, xe_9999, true_implies, false_implies, not_true_eq_false, not_false_eq_true, and_true, true_and, forall_const, imp_self, lc_eq, implies_true, vin, Bool.true_eq_false, Bool.false_eq_true, false_and, and_false, or_false, false_or, or_true, true_or]
      exact ⟨_, _, _, s2, pI_01 (hQ _ _ C2.r)⟩
    · obtain ⟨mi1, ml1, s1, _, M1⟩ := s_findGroups (ro := ro) (d := 35) O OM (H.t 0)
      obtain ⟨mi2, ml2, s2, F2⟩ := s_goTogether (ro := ro) (d := 36) O OM M1 (nI s)
      refine ab_ex_q rfl rfl (fun Q hQ => vc_X12_together_0 _ mi ml ⟨_, _, s1, _, _, _, ab_sem_q rfl rfl (fun Q hQ => mset _ _ Q M1.2.1 hQ), ?_⟩)
      rw [pI_1 c]
      exact ⟨fun q => (by cases q), fun _ => ⟨_, _, _, s2, pI_01 (hQ _ _ (M1.fr F2).1)⟩⟩
  · refine ⟨-1, fun mi ml R => ?_, fun vi vl mi ml H => ?_⟩
    · obtain ⟨mi1, ml1, s1, C1⟩ := s_settle (ro := ro) (d := 32) O R.1 R.2
      refine ab_ex_q rfl rfl (fun Q hQ => vc_X11_together_0 _ mi ml ⟨_, _, s1, fun _ => hQ _ _ C1.r, fun c1 => ⟨fun c2 => ?_, fun _ => hQ _ _ C1.r⟩⟩)
      rcases dx x with h | ⟨n, hn, rfl⟩
      · exact absurd h c1
      · rw [C1.2.1.G, shr_0 hn (by omega)] at c2
        exact absurd ⟨n, c2, rfl⟩ c
    · obtain ⟨mi1, ml1, s1, _, M1⟩ := s_findGroups (ro := ro) (d := 35) O OM (H.t 0)
      refine ab_ex_q rfl rfl (fun Q hQ => vc_X12_together_0 _ mi ml ⟨_, _, s1, _, _, _, ab_sem_q rfl rfl (fun Q hQ => mset _ _ Q M1.2.1 hQ), ?_⟩)
      rw [pI_0 c]
      exact ⟨fun _ => hQ _ _ M1.1, fun q => absurd rfl q⟩)
end Q2
