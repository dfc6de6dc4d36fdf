/-! The reference lays the law by the wishes K. -/
def stP (ti : cM1) (K : Nat → Prop) (l w : Nat) : Prop := K w ∧ ti 13 w = 0 ∧ ti 14 w = nI l
def chP (ti : cM1) (K : Nat → Prop) (l w : Nat) : Prop := K w ∧ ti 13 w = 2 ∧ ti 14 w = nI l
noncomputable def bpl (ti : cM1) (K : Nat → Prop) (l : Nat) : List Nat := lif (¬ ∃ w, w < nW ti ∧ stP ti K l w) (if fI (chP ti K l) (nW ti) = -1 then [l] else [12 + (fI (chP ti K l) (nW ti)).toNatClampNeg])
noncomputable def adl (ti : cM1) (K : Nat → Prop) (w : Nat) : List Nat := lif (K w ∧ ti 13 w = 3) [12 + w]
noncomputable def bp (ti : cM1) (K : Nat → Prop) : List Nat := pre (bpl ti K) (nL ti) ++ pre (adl ti K) (nW ti)
theorem pre_len {f : Nat → List Nat} (h : ∀ j, (f j).length ≤ 1) : ∀ n, (pre f n).length ≤ n
  | 0 => Nat.le_refl 0
  | n + 1 => by
    have := pre_len h n
    have := h n
    rw [pre_s, List.length_append]
    omega
theorem pre_mem {f : Nat → List Nat} {n p : Nat} : p ∈ pre f n ↔ ∃ j, j < n ∧ p ∈ f j := by
  unfold pre
  rw [List.mem_flatMap]
  constructor
  · rintro ⟨j, h1, h2⟩; exact ⟨j, List.mem_range.1 h1, h2⟩
  · rintro ⟨j, h1, h2⟩; exact ⟨j, List.mem_range.2 h1, h2⟩
theorem lif_len {P : Prop} {l : List Nat} (h : l.length ≤ 1) : (lif P l).length ≤ 1 := by
  by_cases c : P
  · rw [lif_1 c]; exact h
  · rw [lif_0 c]; exact Nat.zero_le _
theorem lif_mem {P : Prop} {l : List Nat} {p : Nat} : p ∈ lif P l ↔ P ∧ p ∈ l := by
  by_cases c : P
  · rw [lif_1 c]; exact ⟨fun h => ⟨c, h⟩, fun h => h.2⟩
  · rw [lif_0 c]; exact ⟨fun h => (by cases h), fun h => absurd h.1 c⟩
theorem bpl_len (ti : cM1) (K : Nat → Prop) (l : Nat) : (bpl ti K l).length ≤ 1 := by
  apply lif_len
  split <;> exact Nat.le_refl 1
theorem adl_len (ti : cM1) (K : Nat → Prop) (w : Nat) : (adl ti K w).length ≤ 1 := lif_len (Nat.le_refl 1)
/-- the first of n with P, told by cases -/
theorem fI_cases (P : Nat → Prop) {n : Nat} (hn : n < 2 ^ 31) : (fI P n = -1 ∧ ∀ j, j < n → ¬ P j) ∨ ∃ i, i < n ∧ P i ∧ (∀ j, j < i → ¬ P j) ∧ fI P n = nI i := by
  by_cases h : ∀ j, j < n → ¬ P j
  · exact Or.inl ⟨fI_none h, h⟩
  · have ⟨i, hi, hp⟩ : ∃ i, i < n ∧ P i := Classical.byContradiction (fun q => h (fun j hj hp => q ⟨j, hj, hp⟩))
    have : ∃ k, P k ∧ k < n ∧ ∀ j, j < k → ¬ P j := by
      have hh : ∀ m k, k < m → P k → k < n → ∃ k, P k ∧ k < n ∧ ∀ j, j < k → ¬ P j := by
        intro m
        induction m with
        | zero => intro k hk; exact absurd hk (Nat.not_lt_zero k)
        | succ m ih =>
          intro k hk hp hkn
          by_cases q : ∃ j, j < k ∧ P j
          · obtain ⟨j, hj, hpj⟩ := q
            exact ih j (by omega) hpj (by omega)
          · exact ⟨k, hp, hkn, fun j hj hpj => q ⟨j, hj, hpj⟩⟩
      exact hh (i + 1) i (by omega) hp hi
    obtain ⟨k, h1, h2, h3⟩ := this
    exact Or.inr ⟨k, h2, h1, h3, fI_hit h1 h3 h2 hn⟩
theorem bp_lt {ti : cM1} (O : okT ti) {K : Nat → Prop} : ∀ p ∈ bp ti K, p < 42 := by
  have hW := O.W2
  have hL := O.L2
  intro p hp
  rcases List.mem_append.1 hp with h | h
  · obtain ⟨l, h1, h2⟩ := pre_mem.1 h
    have h3 := (lif_mem.1 h2).2
    rcases fI_cases (chP ti K l) (n := nW ti) (by omega) with ⟨e, _⟩ | ⟨i, q1, _, _, e⟩
    · rw [if_pos e] at h3
      have : p = l := by simpa using h3
      omega
    · rw [if_neg (by rw [e, xe_m1 (by omega)]; exact id), e, nI_clamp (by omega)] at h3
      have : p = 12 + i := by simpa using h3
      omega
  · obtain ⟨w, h1, h2⟩ := pre_mem.1 h
    have : p = 12 + w := by simpa using (lif_mem.1 h2).2
    omega
theorem bp_len {ti : cM1} (O : okT ti) {K : Nat → Prop} : (bp ti K).length ≤ 42 := by
  have hW := O.W2
  have hL := O.L2
  have h1 := pre_len (bpl_len ti K) (nL ti)
  have h2 := pre_len (adl_len ti K) (nW ti)
  unfold bp
  rw [List.length_append]
  omega
section ML
variable {ro : ab_E} {d : Nat} {ti mi vi : cM1} {tl ml vl : cM2}
theorem pI_eq {P Q : Prop} (h : P ↔ Q) {x : Int32} (e : x = pI P) : x = pI Q := e.trans (pI_iff h)
set_option maxHeartbeats 4000000 in
theorem s_builds (O : okT ti) (OM : okM ti tl) (H : eqM ti tl vi vl mi ml) {K : Nat → Prop} (T : tkK K mi) : ∃ mi' ml', cS ro (d + 2) 187 [.ref 40] mi ml none mi' ml' ∧ fr bfI bfL mi ml mi' ml' ∧ mi' 67 = mi 67 ∧ mi' 40 36 = nI (bp ti K).length ∧ ml' 40 40 = oA tl (mem (bp ti K)) ∧ ml' 40 41 = oB tl (mem (bp ti K)) ∧ mi' 40 42 = cQ tl (mem (bp ti K)) ∧ mi' 40 43 = (@ite _ (oA tl (mem (bp ti K)) = 0 ∧ oB tl (mem (bp ti K)) = 0) (Classical.propDecidable _) (-1) (fI (vnk tl (bp ti K)) (bp ti K).length)) ∧ laid tl (bp ti K) mi' ml' := by
  have hW := O.W2
  have hL := O.L2
  refine ab_ex_q rfl rfl (fun Q hQ => vc_X12_builds_0 mi ml ?_)
  -- the adds
  have adds : ∀ mi1 ml1, fr bfI bfL mi ml mi1 ml1 → mi1 67 = mi 67 → laid tl (pre (bpl ti K) (nL ti)) mi1 ml1 → W_X12_builds_185 (cs ro (d + 1)) ro Q 0 mi1 ml1 := by
    intro mi1 ml1 F1 T1 L1
    refine up0 (n := nW ti) (F := fun i => ∀ mi1 ml1, fr bfI bfL mi ml mi1 ml1 → mi1 67 = mi 67 → laid tl (pre (bpl ti K) (nL ti) ++ pre (adl ti K) i) mi1 ml1 → W_X12_builds_185 (cs ro (d + 1)) ro Q (nI i) mi1 ml1) (fun i hi ih mi1 ml1 F1 T1 L1 => ?_) (fun mi1 ml1 F1 T1 L1 => ?_) mi1 ml1 F1 T1 (by rw [show pre (adl ti K) 0 = [] from rfl, List.append_nil]; exact L1)
    · refine vc_X12_builds_185 _ mi1 ml1 ?_
      have H1 := H.fr F1
      have hk := (OM.w i hi).1
      have ht := T i (by omega)
      have e : pre (adl ti K) (i + 1) = pre (adl ti K) i ++ adl ti K i := pre_s _ _
      have skip : ¬ (K i ∧ ti 13 i = 3) → W_X12_builds_185 (cs ro (d + 1)) ro Q (nI (i + 1)) mi1 ml1 := fun h => ih _ _ F1 T1 (by rw [e, adl, lif_0 h, List.append_nil]; exact L1)
      simp (disch := omega) only [H1.s20, H1.e52, H1.e54, H1.f55, H1.f56, OM.s20, O.W, hi, hk, T1, ht, nI_ltI, nI_eq, nI_clamp, nI_1, xl_0, xg_0, xe_0, xe_m1, nI_0, xl_1, xl_2, xl_3, xl_4, xl_5, xl_6, xl_7, xl_8, xl_9, xl_10, xl_12, xl_20, xl_30, xl_32, xl_40, xl_41, xl_42, xl_48, xl_57, xl_59, xl_64, xl_97, xl_100, xl_122, xl_126, xl_128, xl_1000, xl_9999, xg_1, xg_2, xg_3, xg_4, xg_5, xg_6, xg_7, xg_8, xg_9, xg_10, xg_12, xg_20, xg_30, xg_32, xg_40, xg_41, xg_42, xg_48, xg_57, xg_59, xg_64, xg_97, xg_100, xg_122, xg_126, xg_128, xg_1000, xg_9999, xe_1, xe_2, xe_3, xe_4, xe_5, xe_6, xe_7, xe_8, xe_9, xe_10, xe_12, xe_20, xe_30, xe_32, xe_40, xe_41, xe_42, xe_48, xe_57, xe_59, xe_64, xe_97, xe_100, xe_122, xe_126, xe_128, xe_1000, xe_9999, true_implies, false_implies, not_true_eq_false, not_false_eq_true, and_true, true_and, forall_const, imp_self, lc_eq, implies_true, vin, Bool.true_eq_false, Bool.false_eq_true, false_and, and_false, or_false, false_or, or_true, true_or]
      rw [pI_e0]
      refine ⟨fun c => skip (fun h => c h.1), fun c => ⟨fun c2 => ?_, fun c2 => skip (fun h => c2 h.2)⟩⟩
      obtain ⟨n1, n2, n3⟩ := OM.n i hi (Or.inr c2)
      rw [n1, n2, n3]
      have hlen : (pre (bpl ti K) (nL ti) ++ pre (adl ti K) i).length < 42 := by
        have h1 := pre_len (bpl_len ti K) (nL ti)
        have h2 := pre_len (adl_len ti K) i
        rw [List.length_append]
        omega
      obtain ⟨mi2, ml2, s1, L2, F2, T2⟩ := s_lay (ro := ro) (d := d) hlen L1 (12 + i)
      refine ⟨_, _, s1, ih _ _ (F1.tr F2) (T2.trans T1) ?_⟩
      rw [e, adl, lif_1 ⟨Classical.not_not.1 c, c2⟩, ← List.append_assoc]
      exact L2
    · refine vc_X12_builds_185 _ mi1 ml1 ?_
      have H1 := H.fr F1
      simp (disch := omega) only [H1.s20, OM.s20, O.W, Nat.lt_irrefl, nI_ltI, nI_eq, nI_clamp, nI_1, xl_0, xg_0, xe_0, xe_m1, nI_0, xl_1, xl_2, xl_3, xl_4, xl_5, xl_6, xl_7, xl_8, xl_9, xl_10, xl_12, xl_20, xl_30, xl_32, xl_40, xl_41, xl_42, xl_48, xl_57, xl_59, xl_64, xl_97, xl_100, xl_122, xl_126, xl_128, xl_1000, xl_9999, xg_1, xg_2, xg_3, xg_4, xg_5, xg_6, xg_7, xg_8, xg_9, xg_10, xg_12, xg_20, xg_30, xg_32, xg_40, xg_41, xg_42, xg_48, xg_57, xg_59, xg_64, xg_97, xg_100, xg_122, xg_126, xg_128, xg_1000, xg_9999, xe_1, xe_2, xe_3, xe_4, xe_5, xe_6, xe_7, xe_8, xe_9, xe_10, xe_12, xe_20, xe_30, xe_32, xe_40, xe_41, xe_42, xe_48, xe_57, xe_59, xe_64, xe_97, xe_100, xe_122, xe_126, xe_128, xe_1000, xe_9999, true_implies, false_implies, not_true_eq_false, not_false_eq_true, and_true, true_and, forall_const, imp_self, lc_eq, implies_true, vin, Bool.true_eq_false, Bool.false_eq_true, false_and, and_false, or_false, false_or, or_true, true_or]
      obtain ⟨mi2, ml2, s1, F2, T2, h1, h2, h3, h4, h5, h6⟩ := s_asks (ro := ro) (d := d) (bp_lt O (K := K)) (bp_len O) L1
      exact ⟨_, _, s1, hQ _ _ ⟨F1.tr F2, T2.trans T1, h1, h2, h3, h4, h5, h6⟩⟩
  -- the lines
  refine up0 (n := nL ti) (F := fun l => ∀ mi1 ml1, fr bfI bfL mi ml mi1 ml1 → mi1 67 = mi 67 → laid tl (pre (bpl ti K) l) mi1 ml1 → W_X12_builds_7 (cs ro (d + 1)) ro Q (nI l) mi1 ml1) (fun l hl ih mi1 ml1 F1 T1 L1 => ?_) (fun mi1 ml1 F1 T1 L1 => ?_) _ _ (fr.rf.ui 0 rfl) (by funext j; simp [ui_app]) ⟨by simp [ui_app]; rfl, fun k hk => absurd hk (Nat.not_lt_zero k)⟩
  · refine vc_X12_builds_7 _ mi1 ml1 ?_
    have H1 := H.fr F1
    have es : pre (bpl ti K) (l + 1) = pre (bpl ti K) l ++ bpl ti K l := pre_s _ _
    have hlen : (pre (bpl ti K) l).length < 42 := by
      have h1 := pre_len (bpl_len ti K) l
      omega
    simp (disch := omega) only [H1.s12, H1.s20, OM.s12, OM.s20, O.L, O.W, hl, nI_ltI, nI_eq, nI_clamp, nI_1, xl_0, xg_0, xe_0, xe_m1, nI_0, xl_1, xl_2, xl_3, xl_4, xl_5, xl_6, xl_7, xl_8, xl_9, xl_10, xl_12, xl_20, xl_30, xl_32, xl_40, xl_41, xl_42, xl_48, xl_57, xl_59, xl_64, xl_97, xl_100, xl_122, xl_126, xl_128, xl_1000, xl_9999, xg_1, xg_2, xg_3, xg_4, xg_5, xg_6, xg_7, xg_8, xg_9, xg_10, xg_12, xg_20, xg_30, xg_32, xg_40, xg_41, xg_42, xg_48, xg_57, xg_59, xg_64, xg_97, xg_100, xg_122, xg_126, xg_128, xg_1000, xg_9999, xe_1, xe_2, xe_3, xe_4, xe_5, xe_6, xe_7, xe_8, xe_9, xe_10, xe_12, xe_20, xe_30, xe_32, xe_40, xe_41, xe_42, xe_48, xe_57, xe_59, xe_64, xe_97, xe_100, xe_122, xe_126, xe_128, xe_1000, xe_9999, true_implies, false_implies, not_true_eq_false, not_false_eq_true, and_true, true_and, forall_const, imp_self, lc_eq, implies_true, vin, Bool.true_eq_false, Bool.false_eq_true, false_and, and_false, or_false, false_or, or_true, true_or]
    -- the wishes, the last first
    have inner : ∀ i, i ≤ nW ti → ∀ c o : Int32, o = pI (∃ w, i ≤ w ∧ w < nW ti ∧ stP ti K l w) → ((c = -1 ∧ ∀ w, i ≤ w → w < nW ti → ¬ chP ti K l w) ∨ ∃ w, i ≤ w ∧ w < nW ti ∧ chP ti K l w ∧ (∀ v, i ≤ v → v < w → ¬ chP ti K l v) ∧ c = nI w) → W_X12_builds_27 (cs ro (d + 1)) ro Q (nI l) c o (nI i + (-1)) mi1 ml1 := by
      intro i
      induction i with
      | zero =>
        intro _ c o ho hc
        refine vc_X12_builds_27 _ _ _ _ mi1 ml1 ?_
        rw [show nI 0 + (-1) = -1 from by decide]
        have e0 : ((-1 : Int32) < 0) = True := eq_true (by decide)
        have eo : (∃ w, 0 ≤ w ∧ w < nW ti ∧ stP ti K l w) ↔ ∃ w, w < nW ti ∧ stP ti K l w := ⟨fun ⟨w, _, h⟩ => ⟨w, h⟩, fun ⟨w, h⟩ => ⟨w, Nat.zero_le w, h⟩⟩
        rw [pI_iff eo] at ho
        by_cases hs : ∃ w, w < nW ti ∧ stP ti K l w
        · rw [pI_1 hs] at ho
          have e1 : ((1 : Int32) = 0) = False := eq_false (by decide)
          simp (disch := omega) only [e0, ho, e1, nI_ltI, nI_eq, nI_clamp, nI_1, xl_0, xg_0, xe_0, xe_m1, nI_0, xl_1, xl_2, xl_3, xl_4, xl_5, xl_6, xl_7, xl_8, xl_9, xl_10, xl_12, xl_20, xl_30, xl_32, xl_40, xl_41, xl_42, xl_48, xl_57, xl_59, xl_64, xl_97, xl_100, xl_122, xl_126, xl_128, xl_1000, xl_9999, xg_1, xg_2, xg_3, xg_4, xg_5, xg_6, xg_7, xg_8, xg_9, xg_10, xg_12, xg_20, xg_30, xg_32, xg_40, xg_41, xg_42, xg_48, xg_57, xg_59, xg_64, xg_97, xg_100, xg_122, xg_126, xg_128, xg_1000, xg_9999, xe_1, xe_2, xe_3, xe_4, xe_5, xe_6, xe_7, xe_8, xe_9, xe_10, xe_12, xe_20, xe_30, xe_32, xe_40, xe_41, xe_42, xe_48, xe_57, xe_59, xe_64, xe_97, xe_100, xe_122, xe_126, xe_128, xe_1000, xe_9999, true_implies, false_implies, not_true_eq_false, not_false_eq_true, and_true, true_and, forall_const, imp_self, lc_eq, implies_true, vin, Bool.true_eq_false, Bool.false_eq_true, false_and, and_false, or_false, false_or, or_true, true_or]
          refine ih _ _ F1 T1 ?_
          rw [es, bpl, lif_0 (fun h => h hs), List.append_nil]; exact L1
        · rw [pI_0 hs] at ho
          rcases hc with ⟨hc, hno⟩ | ⟨w, _, h2, h3, h4, hc⟩
          · have e1 : ((-1 : Int32) < 0) = True := eq_true (by decide)
            obtain ⟨q1, q2, q3⟩ := OM.l l hl
            simp (disch := omega) only [e0, ho, hc, e1, H1.e46, H1.f47, H1.f48, q1, q2, q3, nI_ltI, nI_eq, nI_clamp, nI_1, xl_0, xg_0, xe_0, xe_m1, nI_0, xl_1, xl_2, xl_3, xl_4, xl_5, xl_6, xl_7, xl_8, xl_9, xl_10, xl_12, xl_20, xl_30, xl_32, xl_40, xl_41, xl_42, xl_48, xl_57, xl_59, xl_64, xl_97, xl_100, xl_122, xl_126, xl_128, xl_1000, xl_9999, xg_1, xg_2, xg_3, xg_4, xg_5, xg_6, xg_7, xg_8, xg_9, xg_10, xg_12, xg_20, xg_30, xg_32, xg_40, xg_41, xg_42, xg_48, xg_57, xg_59, xg_64, xg_97, xg_100, xg_122, xg_126, xg_128, xg_1000, xg_9999, xe_1, xe_2, xe_3, xe_4, xe_5, xe_6, xe_7, xe_8, xe_9, xe_10, xe_12, xe_20, xe_30, xe_32, xe_40, xe_41, xe_42, xe_48, xe_57, xe_59, xe_64, xe_97, xe_100, xe_122, xe_126, xe_128, xe_1000, xe_9999, true_implies, false_implies, not_true_eq_false, not_false_eq_true, and_true, true_and, forall_const, imp_self, lc_eq, implies_true, vin, Bool.true_eq_false, Bool.false_eq_true, false_and, and_false, or_false, false_or, or_true, true_or]
            obtain ⟨mi2, ml2, s1, L2, F2, T2⟩ := s_lay (ro := ro) (d := d) hlen L1 l
            refine ⟨_, _, s1, ih _ _ (F1.tr F2) (T2.trans T1) ?_⟩
            rw [es, bpl, lif_1 hs, if_pos (fI_none (fun j hj => hno j (Nat.zero_le j) hj))]
            exact L2
          · obtain ⟨q1, q2, q3⟩ := OM.n w h2 (Or.inl h3.2.1)
            simp (disch := omega) only [e0, ho, hc, H1.e54, H1.f55, H1.f56, q1, q2, q3, nI_ltI, nI_eq, nI_clamp, nI_1, xl_0, xg_0, xe_0, xe_m1, nI_0, xl_1, xl_2, xl_3, xl_4, xl_5, xl_6, xl_7, xl_8, xl_9, xl_10, xl_12, xl_20, xl_30, xl_32, xl_40, xl_41, xl_42, xl_48, xl_57, xl_59, xl_64, xl_97, xl_100, xl_122, xl_126, xl_128, xl_1000, xl_9999, xg_1, xg_2, xg_3, xg_4, xg_5, xg_6, xg_7, xg_8, xg_9, xg_10, xg_12, xg_20, xg_30, xg_32, xg_40, xg_41, xg_42, xg_48, xg_57, xg_59, xg_64, xg_97, xg_100, xg_122, xg_126, xg_128, xg_1000, xg_9999, xe_1, xe_2, xe_3, xe_4, xe_5, xe_6, xe_7, xe_8, xe_9, xe_10, xe_12, xe_20, xe_30, xe_32, xe_40, xe_41, xe_42, xe_48, xe_57, xe_59, xe_64, xe_97, xe_100, xe_122, xe_126, xe_128, xe_1000, xe_9999, true_implies, false_implies, not_true_eq_false, not_false_eq_true, and_true, true_and, forall_const, imp_self, lc_eq, implies_true, vin, Bool.true_eq_false, Bool.false_eq_true, false_and, and_false, or_false, false_or, or_true, true_or]
            obtain ⟨mi2, ml2, s1, L2, F2, T2⟩ := s_lay (ro := ro) (d := d) hlen L1 (12 + w)
            refine ⟨_, _, s1, ih _ _ (F1.tr F2) (T2.trans T1) ?_⟩
            have ef : fI (chP ti K l) (nW ti) = nI w := fI_hit h3 (fun j hj => h4 j (Nat.zero_le j) hj) h2 (by omega)
            rw [es, bpl, lif_1 hs, ef, if_neg (by rw [xe_m1 (by omega)]; exact id), nI_clamp (by omega)]
            exact L2
      | succ i ih2 =>
        intro hi c o ho hc
        refine vc_X12_builds_27 _ _ _ _ mi1 ml1 ?_
        have hi2 : i < nW ti := by omega
        have hk := (OM.w i hi2).1
        have hli := (OM.w i hi2).2.1
        have ht := T i (by omega)
        rw [nI_am1 (Nat.succ_pos i), show i + 1 - 1 = i from rfl]
        have oK : ¬ stP ti K l i → o = pI (∃ w, i ≤ w ∧ w < nW ti ∧ stP ti K l w) := fun h => by
          refine pI_eq ⟨fun ⟨w, q1, q2, q3⟩ => ⟨w, by omega, q2, q3⟩, fun ⟨w, q1, q2, q3⟩ => ⟨w, ?_, q2, q3⟩⟩ ho
          rcases Nat.lt_or_eq_of_le q1 with e | e
          · omega
          · rw [← e] at q3; exact absurd q3 h
        have oN : stP ti K l i → (1 : Int32) = pI (∃ w, i ≤ w ∧ w < nW ti ∧ stP ti K l w) := fun h => (pI_1 ⟨i, Nat.le_refl i, hi2, h⟩).symm
        have o1 : ¬ o = 0 → (1 : Int32) = pI (∃ w, i ≤ w ∧ w < nW ti ∧ stP ti K l w) := fun h => by
          rw [ho, pI_e0] at h
          obtain ⟨w, q1, q2, q3⟩ := Classical.not_not.1 h
          exact (pI_1 ⟨w, by omega, q2, q3⟩).symm
        have cN : chP ti K l i → (((nI i : Int32) = -1 ∧ ∀ w, i ≤ w → w < nW ti → ¬ chP ti K l w) ∨ ∃ w, i ≤ w ∧ w < nW ti ∧ chP ti K l w ∧ (∀ v, i ≤ v → v < w → ¬ chP ti K l v) ∧ (nI i : Int32) = nI w) := fun h => Or.inr ⟨i, Nat.le_refl i, hi2, h, fun v q1 q2 => absurd q2 (by omega), rfl⟩
        have cK : ¬ chP ti K l i → ((c = -1 ∧ ∀ w, i ≤ w → w < nW ti → ¬ chP ti K l w) ∨ ∃ w, i ≤ w ∧ w < nW ti ∧ chP ti K l w ∧ (∀ v, i ≤ v → v < w → ¬ chP ti K l v) ∧ c = nI w) := fun h => by
          have hh : ∀ w, i ≤ w → i + 1 ≤ w ∨ w = i := fun w q => by omega
          rcases hc with ⟨hc, hno⟩ | ⟨w, q1, q2, q3, q4, hc⟩
          · refine Or.inl ⟨hc, fun w q1 q2 => ?_⟩
            rcases hh w q1 with e | e
            · exact hno w e q2
            · rw [e]; exact h
          · refine Or.inr ⟨w, by omega, q2, q3, fun v q5 q6 => ?_, hc⟩
            rcases hh v q5 with e | e
            · exact q4 v e q6
            · rw [e]; exact h
        have nxt := ih2 (by omega)
        have o0 : o = 0 ∨ ¬ o = 0 := Classical.em _
        by_cases hKi : K i
        · have ht1 : mi1 67 i = 1 := by rw [T1, ht, pI_1 hKi]
          have e1 : ((1 : Int32) = 0) = False := eq_false (by decide)
          by_cases k0 : ti 13 i = 0
          · have e2 : ((0 : Int32) = 2) = False := eq_false (by decide)
            have nch : ¬ chP ti K l i := fun h => by rw [chP, k0] at h; exact absurd h.2.1 (by decide)
            by_cases tt : ti 14 i = nI l
            · rcases o0 with e | e
              · simp (disch := omega) only [ht1, e1, H1.e52, H1.e53, hk, hli, k0, e2, eq_true tt, e, nI_ltI, nI_eq, nI_clamp, nI_1, xl_0, xg_0, xe_0, xe_m1, nI_0, xl_1, xl_2, xl_3, xl_4, xl_5, xl_6, xl_7, xl_8, xl_9, xl_10, xl_12, xl_20, xl_30, xl_32, xl_40, xl_41, xl_42, xl_48, xl_57, xl_59, xl_64, xl_97, xl_100, xl_122, xl_126, xl_128, xl_1000, xl_9999, xg_1, xg_2, xg_3, xg_4, xg_5, xg_6, xg_7, xg_8, xg_9, xg_10, xg_12, xg_20, xg_30, xg_32, xg_40, xg_41, xg_42, xg_48, xg_57, xg_59, xg_64, xg_97, xg_100, xg_122, xg_126, xg_128, xg_1000, xg_9999, xe_1, xe_2, xe_3, xe_4, xe_5, xe_6, xe_7, xe_8, xe_9, xe_10, xe_12, xe_20, xe_30, xe_32, xe_40, xe_41, xe_42, xe_48, xe_57, xe_59, xe_64, xe_97, xe_100, xe_122, xe_126, xe_128, xe_1000, xe_9999, true_implies, false_implies, not_true_eq_false, not_false_eq_true, and_true, true_and, forall_const, imp_self, lc_eq, implies_true, vin, Bool.true_eq_false, Bool.false_eq_true, false_and, and_false, or_false, false_or, or_true, true_or]
                exact nxt _ _ (oN ⟨hKi, k0, tt⟩) (cK nch)
              · simp (disch := omega) only [ht1, e1, H1.e52, H1.e53, hk, hli, k0, e2, eq_true tt, e, nI_ltI, nI_eq, nI_clamp, nI_1, xl_0, xg_0, xe_0, xe_m1, nI_0, xl_1, xl_2, xl_3, xl_4, xl_5, xl_6, xl_7, xl_8, xl_9, xl_10, xl_12, xl_20, xl_30, xl_32, xl_40, xl_41, xl_42, xl_48, xl_57, xl_59, xl_64, xl_97, xl_100, xl_122, xl_126, xl_128, xl_1000, xl_9999, xg_1, xg_2, xg_3, xg_4, xg_5, xg_6, xg_7, xg_8, xg_9, xg_10, xg_12, xg_20, xg_30, xg_32, xg_40, xg_41, xg_42, xg_48, xg_57, xg_59, xg_64, xg_97, xg_100, xg_122, xg_126, xg_128, xg_1000, xg_9999, xe_1, xe_2, xe_3, xe_4, xe_5, xe_6, xe_7, xe_8, xe_9, xe_10, xe_12, xe_20, xe_30, xe_32, xe_40, xe_41, xe_42, xe_48, xe_57, xe_59, xe_64, xe_97, xe_100, xe_122, xe_126, xe_128, xe_1000, xe_9999, true_implies, false_implies, not_true_eq_false, not_false_eq_true, and_true, true_and, forall_const, imp_self, lc_eq, implies_true, vin, Bool.true_eq_false, Bool.false_eq_true, false_and, and_false, or_false, false_or, or_true, true_or]
                exact nxt _ _ (o1 e) (cK nch)
            · have nst : ¬ stP ti K l i := fun h => tt h.2.2
              rcases o0 with e | e
              · simp (disch := omega) only [ht1, e1, H1.e52, H1.e53, hk, hli, k0, e2, tt, eq_true e, nI_ltI, nI_eq, nI_clamp, nI_1, xl_0, xg_0, xe_0, xe_m1, nI_0, xl_1, xl_2, xl_3, xl_4, xl_5, xl_6, xl_7, xl_8, xl_9, xl_10, xl_12, xl_20, xl_30, xl_32, xl_40, xl_41, xl_42, xl_48, xl_57, xl_59, xl_64, xl_97, xl_100, xl_122, xl_126, xl_128, xl_1000, xl_9999, xg_1, xg_2, xg_3, xg_4, xg_5, xg_6, xg_7, xg_8, xg_9, xg_10, xg_12, xg_20, xg_30, xg_32, xg_40, xg_41, xg_42, xg_48, xg_57, xg_59, xg_64, xg_97, xg_100, xg_122, xg_126, xg_128, xg_1000, xg_9999, xe_1, xe_2, xe_3, xe_4, xe_5, xe_6, xe_7, xe_8, xe_9, xe_10, xe_12, xe_20, xe_30, xe_32, xe_40, xe_41, xe_42, xe_48, xe_57, xe_59, xe_64, xe_97, xe_100, xe_122, xe_126, xe_128, xe_1000, xe_9999, true_implies, false_implies, not_true_eq_false, not_false_eq_true, and_true, true_and, forall_const, imp_self, lc_eq, implies_true, vin, Bool.true_eq_false, Bool.false_eq_true, false_and, and_false, or_false, false_or, or_true, true_or]
                exact nxt _ _ (e ▸ oK nst) (cK nch)
              · simp (disch := omega) only [ht1, e1, H1.e52, H1.e53, hk, hli, k0, e2, tt, e, nI_ltI, nI_eq, nI_clamp, nI_1, xl_0, xg_0, xe_0, xe_m1, nI_0, xl_1, xl_2, xl_3, xl_4, xl_5, xl_6, xl_7, xl_8, xl_9, xl_10, xl_12, xl_20, xl_30, xl_32, xl_40, xl_41, xl_42, xl_48, xl_57, xl_59, xl_64, xl_97, xl_100, xl_122, xl_126, xl_128, xl_1000, xl_9999, xg_1, xg_2, xg_3, xg_4, xg_5, xg_6, xg_7, xg_8, xg_9, xg_10, xg_12, xg_20, xg_30, xg_32, xg_40, xg_41, xg_42, xg_48, xg_57, xg_59, xg_64, xg_97, xg_100, xg_122, xg_126, xg_128, xg_1000, xg_9999, xe_1, xe_2, xe_3, xe_4, xe_5, xe_6, xe_7, xe_8, xe_9, xe_10, xe_12, xe_20, xe_30, xe_32, xe_40, xe_41, xe_42, xe_48, xe_57, xe_59, xe_64, xe_97, xe_100, xe_122, xe_126, xe_128, xe_1000, xe_9999, true_implies, false_implies, not_true_eq_false, not_false_eq_true, and_true, true_and, forall_const, imp_self, lc_eq, implies_true, vin, Bool.true_eq_false, Bool.false_eq_true, false_and, and_false, or_false, false_or, or_true, true_or]
                exact nxt _ _ (o1 e) (cK nch)
          · have nst : ¬ stP ti K l i := fun h => k0 h.2.1
            by_cases k2 : ti 13 i = 2
            · have e2 : ((2 : Int32) = 0) = False := eq_false (by decide)
              by_cases tt : ti 14 i = nI l
              · rcases o0 with e | e
                · simp (disch := omega) only [ht1, e1, H1.e52, H1.e53, hk, hli, k2, e2, eq_true tt, eq_true e, nI_ltI, nI_eq, nI_clamp, nI_1, xl_0, xg_0, xe_0, xe_m1, nI_0, xl_1, xl_2, xl_3, xl_4, xl_5, xl_6, xl_7, xl_8, xl_9, xl_10, xl_12, xl_20, xl_30, xl_32, xl_40, xl_41, xl_42, xl_48, xl_57, xl_59, xl_64, xl_97, xl_100, xl_122, xl_126, xl_128, xl_1000, xl_9999, xg_1, xg_2, xg_3, xg_4, xg_5, xg_6, xg_7, xg_8, xg_9, xg_10, xg_12, xg_20, xg_30, xg_32, xg_40, xg_41, xg_42, xg_48, xg_57, xg_59, xg_64, xg_97, xg_100, xg_122, xg_126, xg_128, xg_1000, xg_9999, xe_1, xe_2, xe_3, xe_4, xe_5, xe_6, xe_7, xe_8, xe_9, xe_10, xe_12, xe_20, xe_30, xe_32, xe_40, xe_41, xe_42, xe_48, xe_57, xe_59, xe_64, xe_97, xe_100, xe_122, xe_126, xe_128, xe_1000, xe_9999, true_implies, false_implies, not_true_eq_false, not_false_eq_true, and_true, true_and, forall_const, imp_self, lc_eq, implies_true, vin, Bool.true_eq_false, Bool.false_eq_true, false_and, and_false, or_false, false_or, or_true, true_or]
                  exact nxt _ _ (e ▸ oK nst) (cN ⟨hKi, k2, tt⟩)
                · simp (disch := omega) only [ht1, e1, H1.e52, H1.e53, hk, hli, k2, e2, eq_true tt, e, nI_ltI, nI_eq, nI_clamp, nI_1, xl_0, xg_0, xe_0, xe_m1, nI_0, xl_1, xl_2, xl_3, xl_4, xl_5, xl_6, xl_7, xl_8, xl_9, xl_10, xl_12, xl_20, xl_30, xl_32, xl_40, xl_41, xl_42, xl_48, xl_57, xl_59, xl_64, xl_97, xl_100, xl_122, xl_126, xl_128, xl_1000, xl_9999, xg_1, xg_2, xg_3, xg_4, xg_5, xg_6, xg_7, xg_8, xg_9, xg_10, xg_12, xg_20, xg_30, xg_32, xg_40, xg_41, xg_42, xg_48, xg_57, xg_59, xg_64, xg_97, xg_100, xg_122, xg_126, xg_128, xg_1000, xg_9999, xe_1, xe_2, xe_3, xe_4, xe_5, xe_6, xe_7, xe_8, xe_9, xe_10, xe_12, xe_20, xe_30, xe_32, xe_40, xe_41, xe_42, xe_48, xe_57, xe_59, xe_64, xe_97, xe_100, xe_122, xe_126, xe_128, xe_1000, xe_9999, true_implies, false_implies, not_true_eq_false, not_false_eq_true, and_true, true_and, forall_const, imp_self, lc_eq, implies_true, vin, Bool.true_eq_false, Bool.false_eq_true, false_and, and_false, or_false, false_or, or_true, true_or]
                  exact nxt _ _ (o1 e) (cN ⟨hKi, k2, tt⟩)
              · have nch : ¬ chP ti K l i := fun h => tt h.2.2
                rcases o0 with e | e
                · simp (disch := omega) only [ht1, e1, H1.e52, H1.e53, hk, hli, k2, e2, tt, eq_true e, nI_ltI, nI_eq, nI_clamp, nI_1, xl_0, xg_0, xe_0, xe_m1, nI_0, xl_1, xl_2, xl_3, xl_4, xl_5, xl_6, xl_7, xl_8, xl_9, xl_10, xl_12, xl_20, xl_30, xl_32, xl_40, xl_41, xl_42, xl_48, xl_57, xl_59, xl_64, xl_97, xl_100, xl_122, xl_126, xl_128, xl_1000, xl_9999, xg_1, xg_2, xg_3, xg_4, xg_5, xg_6, xg_7, xg_8, xg_9, xg_10, xg_12, xg_20, xg_30, xg_32, xg_40, xg_41, xg_42, xg_48, xg_57, xg_59, xg_64, xg_97, xg_100, xg_122, xg_126, xg_128, xg_1000, xg_9999, xe_1, xe_2, xe_3, xe_4, xe_5, xe_6, xe_7, xe_8, xe_9, xe_10, xe_12, xe_20, xe_30, xe_32, xe_40, xe_41, xe_42, xe_48, xe_57, xe_59, xe_64, xe_97, xe_100, xe_122, xe_126, xe_128, xe_1000, xe_9999, true_implies, false_implies, not_true_eq_false, not_false_eq_true, and_true, true_and, forall_const, imp_self, lc_eq, implies_true, vin, Bool.true_eq_false, Bool.false_eq_true, false_and, and_false, or_false, false_or, or_true, true_or]
                  exact nxt _ _ (e ▸ oK nst) (cK nch)
                · simp (disch := omega) only [ht1, e1, H1.e52, H1.e53, hk, hli, k2, e2, tt, e, nI_ltI, nI_eq, nI_clamp, nI_1, xl_0, xg_0, xe_0, xe_m1, nI_0, xl_1, xl_2, xl_3, xl_4, xl_5, xl_6, xl_7, xl_8, xl_9, xl_10, xl_12, xl_20, xl_30, xl_32, xl_40, xl_41, xl_42, xl_48, xl_57, xl_59, xl_64, xl_97, xl_100, xl_122, xl_126, xl_128, xl_1000, xl_9999, xg_1, xg_2, xg_3, xg_4, xg_5, xg_6, xg_7, xg_8, xg_9, xg_10, xg_12, xg_20, xg_30, xg_32, xg_40, xg_41, xg_42, xg_48, xg_57, xg_59, xg_64, xg_97, xg_100, xg_122, xg_126, xg_128, xg_1000, xg_9999, xe_1, xe_2, xe_3, xe_4, xe_5, xe_6, xe_7, xe_8, xe_9, xe_10, xe_12, xe_20, xe_30, xe_32, xe_40, xe_41, xe_42, xe_48, xe_57, xe_59, xe_64, xe_97, xe_100, xe_122, xe_126, xe_128, xe_1000, xe_9999, true_implies, false_implies, not_true_eq_false, not_false_eq_true, and_true, true_and, forall_const, imp_self, lc_eq, implies_true, vin, Bool.true_eq_false, Bool.false_eq_true, false_and, and_false, or_false, false_or, or_true, true_or]
                  exact nxt _ _ (o1 e) (cK nch)
            · have nch : ¬ chP ti K l i := fun h => k2 h.2.1
              rcases o0 with e | e
              · simp (disch := omega) only [ht1, e1, H1.e52, H1.e53, hk, hli, k2, k0, eq_true e, nI_ltI, nI_eq, nI_clamp, nI_1, xl_0, xg_0, xe_0, xe_m1, nI_0, xl_1, xl_2, xl_3, xl_4, xl_5, xl_6, xl_7, xl_8, xl_9, xl_10, xl_12, xl_20, xl_30, xl_32, xl_40, xl_41, xl_42, xl_48, xl_57, xl_59, xl_64, xl_97, xl_100, xl_122, xl_126, xl_128, xl_1000, xl_9999, xg_1, xg_2, xg_3, xg_4, xg_5, xg_6, xg_7, xg_8, xg_9, xg_10, xg_12, xg_20, xg_30, xg_32, xg_40, xg_41, xg_42, xg_48, xg_57, xg_59, xg_64, xg_97, xg_100, xg_122, xg_126, xg_128, xg_1000, xg_9999, xe_1, xe_2, xe_3, xe_4, xe_5, xe_6, xe_7, xe_8, xe_9, xe_10, xe_12, xe_20, xe_30, xe_32, xe_40, xe_41, xe_42, xe_48, xe_57, xe_59, xe_64, xe_97, xe_100, xe_122, xe_126, xe_128, xe_1000, xe_9999, true_implies, false_implies, not_true_eq_false, not_false_eq_true, and_true, true_and, forall_const, imp_self, lc_eq, implies_true, vin, Bool.true_eq_false, Bool.false_eq_true, false_and, and_false, or_false, false_or, or_true, true_or]
                exact nxt _ _ (e ▸ oK nst) (cK nch)
              · simp (disch := omega) only [ht1, e1, H1.e52, H1.e53, hk, hli, k2, k0, e, nI_ltI, nI_eq, nI_clamp, nI_1, xl_0, xg_0, xe_0, xe_m1, nI_0, xl_1, xl_2, xl_3, xl_4, xl_5, xl_6, xl_7, xl_8, xl_9, xl_10, xl_12, xl_20, xl_30, xl_32, xl_40, xl_41, xl_42, xl_48, xl_57, xl_59, xl_64, xl_97, xl_100, xl_122, xl_126, xl_128, xl_1000, xl_9999, xg_1, xg_2, xg_3, xg_4, xg_5, xg_6, xg_7, xg_8, xg_9, xg_10, xg_12, xg_20, xg_30, xg_32, xg_40, xg_41, xg_42, xg_48, xg_57, xg_59, xg_64, xg_97, xg_100, xg_122, xg_126, xg_128, xg_1000, xg_9999, xe_1, xe_2, xe_3, xe_4, xe_5, xe_6, xe_7, xe_8, xe_9, xe_10, xe_12, xe_20, xe_30, xe_32, xe_40, xe_41, xe_42, xe_48, xe_57, xe_59, xe_64, xe_97, xe_100, xe_122, xe_126, xe_128, xe_1000, xe_9999, true_implies, false_implies, not_true_eq_false, not_false_eq_true, and_true, true_and, forall_const, imp_self, lc_eq, implies_true, vin, Bool.true_eq_false, Bool.false_eq_true, false_and, and_false, or_false, false_or, or_true, true_or]
                exact nxt _ _ (o1 e) (cK nch)
        · have ht0 : mi1 67 i = 0 := by rw [T1, ht, pI_0 hKi]
          have nst : ¬ stP ti K l i := fun h => hKi h.1
          have nch : ¬ chP ti K l i := fun h => hKi h.1
          rcases o0 with e | e
          · simp (disch := omega) only [ht0, eq_true e, nI_ltI, nI_eq, nI_clamp, nI_1, xl_0, xg_0, xe_0, xe_m1, nI_0, xl_1, xl_2, xl_3, xl_4, xl_5, xl_6, xl_7, xl_8, xl_9, xl_10, xl_12, xl_20, xl_30, xl_32, xl_40, xl_41, xl_42, xl_48, xl_57, xl_59, xl_64, xl_97, xl_100, xl_122, xl_126, xl_128, xl_1000, xl_9999, xg_1, xg_2, xg_3, xg_4, xg_5, xg_6, xg_7, xg_8, xg_9, xg_10, xg_12, xg_20, xg_30, xg_32, xg_40, xg_41, xg_42, xg_48, xg_57, xg_59, xg_64, xg_97, xg_100, xg_122, xg_126, xg_128, xg_1000, xg_9999, xe_1, xe_2, xe_3, xe_4, xe_5, xe_6, xe_7, xe_8, xe_9, xe_10, xe_12, xe_20, xe_30, xe_32, xe_40, xe_41, xe_42, xe_48, xe_57, xe_59, xe_64, xe_97, xe_100, xe_122, xe_126, xe_128, xe_1000, xe_9999, true_implies, false_implies, not_true_eq_false, not_false_eq_true, and_true, true_and, forall_const, imp_self, lc_eq, implies_true, vin, Bool.true_eq_false, Bool.false_eq_true, false_and, and_false, or_false, false_or, or_true, true_or]
            exact nxt _ _ (e ▸ oK nst) (cK nch)
          · simp (disch := omega) only [ht0, e, nI_ltI, nI_eq, nI_clamp, nI_1, xl_0, xg_0, xe_0, xe_m1, nI_0, xl_1, xl_2, xl_3, xl_4, xl_5, xl_6, xl_7, xl_8, xl_9, xl_10, xl_12, xl_20, xl_30, xl_32, xl_40, xl_41, xl_42, xl_48, xl_57, xl_59, xl_64, xl_97, xl_100, xl_122, xl_126, xl_128, xl_1000, xl_9999, xg_1, xg_2, xg_3, xg_4, xg_5, xg_6, xg_7, xg_8, xg_9, xg_10, xg_12, xg_20, xg_30, xg_32, xg_40, xg_41, xg_42, xg_48, xg_57, xg_59, xg_64, xg_97, xg_100, xg_122, xg_126, xg_128, xg_1000, xg_9999, xe_1, xe_2, xe_3, xe_4, xe_5, xe_6, xe_7, xe_8, xe_9, xe_10, xe_12, xe_20, xe_30, xe_32, xe_40, xe_41, xe_42, xe_48, xe_57, xe_59, xe_64, xe_97, xe_100, xe_122, xe_126, xe_128, xe_1000, xe_9999, true_implies, false_implies, not_true_eq_false, not_false_eq_true, and_true, true_and, forall_const, imp_self, lc_eq, implies_true, vin, Bool.true_eq_false, Bool.false_eq_true, false_and, and_false, or_false, false_or, or_true, true_or]
            exact nxt _ _ (o1 e) (cK nch)
    have q := inner (nW ti) (Nat.le_refl _) (-1) 0 (pI_0 (fun ⟨w, q1, q2, _⟩ => by omega)).symm (Or.inl ⟨rfl, fun w q1 q2 => by omega⟩)
    rw [← Int32.sub_eq_add_neg] at q
    exact q
  · refine vc_X12_builds_7 _ mi1 ml1 ?_
    have H1 := H.fr F1
    simp (disch := omega) only [H1.s12, OM.s12, O.L, Nat.lt_irrefl, nI_ltI, nI_eq, nI_clamp, nI_1, xl_0, xg_0, xe_0, xe_m1, nI_0, xl_1, xl_2, xl_3, xl_4, xl_5, xl_6, xl_7, xl_8, xl_9, xl_10, xl_12, xl_20, xl_30, xl_32, xl_40, xl_41, xl_42, xl_48, xl_57, xl_59, xl_64, xl_97, xl_100, xl_122, xl_126, xl_128, xl_1000, xl_9999, xg_1, xg_2, xg_3, xg_4, xg_5, xg_6, xg_7, xg_8, xg_9, xg_10, xg_12, xg_20, xg_30, xg_32, xg_40, xg_41, xg_42, xg_48, xg_57, xg_59, xg_64, xg_97, xg_100, xg_122, xg_126, xg_128, xg_1000, xg_9999, xe_1, xe_2, xe_3, xe_4, xe_5, xe_6, xe_7, xe_8, xe_9, xe_10, xe_12, xe_20, xe_30, xe_32, xe_40, xe_41, xe_42, xe_48, xe_57, xe_59, xe_64, xe_97, xe_100, xe_122, xe_126, xe_128, xe_1000, xe_9999, true_implies, false_implies, not_true_eq_false, not_false_eq_true, and_true, true_and, forall_const, imp_self, lc_eq, implies_true, vin, Bool.true_eq_false, Bool.false_eq_true, false_and, and_false, or_false, false_or, or_true, true_or]
    exact adds mi1 ml1 F1 T1 L1
end ML
