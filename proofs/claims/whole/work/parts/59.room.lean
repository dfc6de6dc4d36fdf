/-! The room's own helpers, and lines that are idle. -/
theorem dx (x : Int32) : x < 0 ∨ ∃ n, n < 2 ^ 31 ∧ x = nI n := by
  by_cases h : x < 0
  · exact Or.inl h
  · exact Or.inr (nI_of h)
noncomputable def idP (ti : cM1) (tl : cM2) (l : Nat) : Prop := mS tl (fun p => decide (p < nL ti) && !decide (p = l)) (fun p => decide (p < nL ti))
/-- the lines of the set s mean the same as all of them -/
noncomputable def smP (ti : cM1) (tl : cM2) (s : Nat) : Prop := mS tl (fun p => decide (p < nL ti) && s.testBit p) (fun p => decide (p < nL ti))
section RO
variable {ro : ab_E} {d : Nat} {ti mi : cM1} {tl ml : cM2}
theorem s_goesN (O : okT ti) (C : cP ti tl mi ml) {s : Nat} (hs : s < 2 ^ 30) : ∃ ml', cS ro (d + 5) 34 [.ref 25, .int (nI s)] mi ml (some (.int (pI (goN ti tl s)))) mi ml' ∧ cP ti tl mi ml' ∧ ∀ k, ¬ k = 9 → ¬ k = 31 → ¬ k = 32 → ml' k = ml k := s_goes O C hs
theorem op_rf (ml : cM2) : op ml (ml 9 4) (ml 9 5) = ml := by
  funext x y
  simp only [op, ul_app]
  by_cases h : x = 9
  · subst h
    by_cases h5 : y = 5
    · subst h5; simp
    · by_cases h4 : y = 4
      · subst h4; simp
      · simp [h5, h4]
  · simp [h]
theorem s_isIdle (O : okT ti) (H : eqP ti tl mi ml) {l : Nat} (hl : l < 12) : ∃ a b, cS ro (d + 4) 60 [.ref 9, .int (nI l)] mi ml (some (.int (pI (idP ti tl l)))) mi (op ml a b) := by
  obtain ⟨r, s1, h1⟩ := s_wholeT (ro := ro) (d := d + 2) O H
  have s2 := s_meanSame (ro := ro) (d := d) (mi := mi) (ml := ml) (r &&& (((1 : Int64) <<< ((nI l).toInt64 &&& 63)) ^^^ (-1))) r
  have e1 : b6 r = fun p => decide (p < nL ti) := funext h1
  have e2 : b6 (r &&& (((1 : Int64) <<< ((nI l).toInt64 &&& 63)) ^^^ (-1))) = fun p => decide (p < nL ti) && !decide (p = l) := by
    funext p
    by_cases hp : p < 64
    · rw [b6_and, b6_not _ hp, h1, b6_bit (by omega)]
    · have := O.L2
      rw [b6_ge _ (by omega)]
      have : ¬ p < nL ti := by omega
      simp [this]
  rw [e1, e2, H.qmS] at s2
  exact ⟨_, _, ab_sem_q rfl rfl (fun Q hQ => vc_X6_isIdle_0 _ mi ml ⟨_, _, _, s1, _, _, _, s1, _, _, _, s2, pI_or _, hQ⟩)⟩
theorem s_needed (O : okT ti) (H : eqP ti tl mi ml) : ∃ r a b, cS ro (d + 5) 59 [.ref 9] mi ml (some (.int (nI r))) mi (op ml a b) ∧ r < 2 ^ nL ti ∧ ∀ l, l < nL ti → (r.testBit l = true ↔ ¬ idP ti tl l) := by
  have hL := O.L2
  have key : ∃ r mi' ml', ab_sem ro ab_mt (d + 5) 59 [.ref 9] (ab_G mi ml) (some (.int r)) (ab_G mi' ml') ∧ (mi' = mi ∧ (∃ a b, ml' = op ml a b) ∧ ∃ n, r = nI n ∧ n < 2 ^ nL ti ∧ ∀ l, l < nL ti → (n.testBit l = true ↔ ¬ idP ti tl l)) := by
    refine ab_ei_q rfl rfl (fun Q hQ => vc_X6_neededLines_0 mi ml ?_)
    refine up0 (n := nL ti) (F := fun i => ∀ a b r, r < 2 ^ i → (∀ l, l < i → (r.testBit l = true ↔ ¬ idP ti tl l)) → W_X6_neededLines_4 (cs ro (d + 4)) ro Q (nI r) (nI i) mi (op ml a b)) (fun i hi ih a b r hr hb => ?_) (fun a b r hr hb => ?_) (ml 9 4) (ml 9 5) 0 (by decide) (fun l hl => absurd hl (Nat.not_lt_zero l)) |> (fun h => by rw [op_rf] at h; exact h)
    · refine vc_X6_neededLines_4 _ _ mi _ ?_
      obtain ⟨a', b', s1⟩ := s_isIdle (ro := ro) (d := d) O (H.op a b) (l := i) (by omega)
      rw [op_op] at s1
      have hr2 : r < 2 ^ 30 := Nat.lt_of_lt_of_le hr (Nat.pow_le_pow_right (by decide) (by omega))
      have hr3 : r < 2 ^ (i + 1) := Nat.lt_of_lt_of_le hr (Nat.pow_le_pow_right (by decide) (by omega))
      simp (disch := omega) only [H.e93, O.L, hi, nI_ltI, nI_eq, nI_clamp, nI_1, xl_0, xg_0, xe_0, xe_m1, nI_0, xl_1, xl_2, xl_3, xl_4, xl_5, xl_6, xl_7, xl_8, xl_9, xl_10, xl_12, xl_20, xl_30, xl_32, xl_40, xl_41, xl_42, xl_48, xl_57, xl_59, xl_64, xl_97, xl_100, xl_122, xl_126, xl_128, xl_1000, xl_9999, xg_1, xg_2, xg_3, xg_4, xg_5, xg_6, xg_7, xg_8, xg_9, xg_10, xg_12, xg_20, xg_30, xg_32, xg_40, xg_41, xg_42, xg_48, xg_57, xg_59, xg_64, xg_97, xg_100, xg_122, xg_126, xg_128, xg_1000, xg_9999, xe_1, xe_2, xe_3, xe_4, xe_5, xe_6, xe_7, xe_8, xe_9, xe_10, xe_12, xe_20, xe_30, xe_32, xe_40, xe_41, xe_42, xe_48, xe_57, xe_59, xe_64, xe_97, xe_100, xe_122, xe_126, xe_128, xe_1000, xe_9999, true_implies, false_implies, not_true_eq_false, not_false_eq_true, and_true, true_and, forall_const, imp_self, lc_eq, implies_true, vin, Bool.true_eq_false, Bool.false_eq_true, false_and, and_false, or_false, false_or, or_true, true_or]
      rw [or_bit hr2 (by omega)]
      refine ⟨_, _, _, s1, ?_⟩
      rw [pI_e0]
      have hti : r.testBit i = false := Nat.testBit_lt_two_pow hr
      refine ⟨fun c => ih _ _ _ (or_lt hr3 (by omega)) (fun l hl => ?_), fun c => ih _ _ _ hr3 (fun l hl => ?_)⟩
      · rw [Nat.testBit_or, Nat.testBit_two_pow]
        by_cases e : i = l
        · rw [← e]; simp [c]
        · rw [← hb l (by omega)]; simp [e]
      · by_cases e : l = i
        · rw [e, hti]; simp [Classical.not_not.1 c]
        · exact hb l (by omega)
    · refine vc_X6_neededLines_4 _ _ mi _ ?_
      simp (disch := omega) only [H.e93, O.L, Nat.lt_irrefl, nI_ltI, nI_eq, nI_clamp, nI_1, xl_0, xg_0, xe_0, xe_m1, nI_0, xl_1, xl_2, xl_3, xl_4, xl_5, xl_6, xl_7, xl_8, xl_9, xl_10, xl_12, xl_20, xl_30, xl_32, xl_40, xl_41, xl_42, xl_48, xl_57, xl_59, xl_64, xl_97, xl_100, xl_122, xl_126, xl_128, xl_1000, xl_9999, xg_1, xg_2, xg_3, xg_4, xg_5, xg_6, xg_7, xg_8, xg_9, xg_10, xg_12, xg_20, xg_30, xg_32, xg_40, xg_41, xg_42, xg_48, xg_57, xg_59, xg_64, xg_97, xg_100, xg_122, xg_126, xg_128, xg_1000, xg_9999, xe_1, xe_2, xe_3, xe_4, xe_5, xe_6, xe_7, xe_8, xe_9, xe_10, xe_12, xe_20, xe_30, xe_32, xe_40, xe_41, xe_42, xe_48, xe_57, xe_59, xe_64, xe_97, xe_100, xe_122, xe_126, xe_128, xe_1000, xe_9999, true_implies, false_implies, not_true_eq_false, not_false_eq_true, and_true, true_and, forall_const, imp_self, lc_eq, implies_true, vin, Bool.true_eq_false, Bool.false_eq_true, false_and, and_false, or_false, false_or, or_true, true_or]
      exact hQ _ _ _ ⟨rfl, ⟨a, b, rfl⟩, r, rfl, hr, hb⟩
  obtain ⟨r, mi', ml', h1, rfl, ⟨a, b, rfl⟩, n, rfl, h2, h3⟩ := key
  exact ⟨n, a, b, h1, h2, h3⟩
theorem b6_l (s : Nat) (hs : s < 2 ^ 31) (p : Nat) : b6 (nI s).toInt64 p = s.testBit p := by
  rw [nI_l hs]
  show (BitVec.ofNat 64 s).getLsbD p = _
  rw [BitVec.getLsbD_ofNat]
  by_cases hp : p < 64
  · simp [hp]
  · simp [hp]
    exact Nat.testBit_lt_two_pow (Nat.lt_of_lt_of_le hs (Nat.pow_le_pow_right (by decide) (show 31 ≤ p by omega)))
theorem b3_i (x : Int64) {p : Nat} (hp : p < 32) : b3 x.toInt32 p = b6 x p := by
  unfold b3 b6
  rw [Int64.toBitVec_toInt32, BitVec.getLsbD_signExtend]
  have : p < 64 := by omega
  simp [hp, this]
theorem whole_i {r : Int64} {n : Nat} (hn : n ≤ 12) (h : ∀ p, b6 r p = decide (p < n)) : r.toInt32 = nI (2 ^ n - 1) := by
  have h2 : 2 ^ n ≤ 4096 := p12 hn
  apply b3_ext
  intro p hp
  rw [b3_i _ hp, h, b3_nI (by omega), Nat.testBit_two_pow_sub_one]
theorem anL_mono {f : Nat → Int64} {P Q : Nat → Bool} {n : Nat} (h : ∀ p, P p = true → Q p = true) {j : Nat} (hj : b6 (anL f Q n) j = true) : b6 (anL f P n) j = true := by
  rw [anL_bit] at hj ⊢
  exact ⟨hj.1, fun p hp hP => hj.2 p hp (h p hP)⟩
theorem b6_sand {x y z : Int64} (h1 : ∀ j, b6 z j = true → b6 y j = true) (h2 : ∀ j, b6 y j = true → b6 x j = true) (e : x = z) : y = z := by
  apply b6_ext_iff
  intro j _
  exact ⟨fun h => e ▸ h2 j h, fun h => h1 j h⟩
/-- a line that a set alike leaves out is idle -/
theorem sm_id {s l : Nat} (h : smP ti tl s) (hl : s.testBit l = false) : idP ti tl l := by
  obtain ⟨h1, h2, h3, h4⟩ := h
  have sub1 : ∀ p, (decide (p < nL ti) && s.testBit p) = true → (decide (p < nL ti) && !decide (p = l)) = true := fun p hp => by
    rw [Bool.and_eq_true] at hp ⊢
    refine ⟨hp.1, ?_⟩
    by_cases e : p = l
    · rw [e, hl] at hp; exact absurd hp.2 (by decide)
    · simp [e]
  have sub2 : ∀ p, (decide (p < nL ti) && !decide (p = l)) = true → decide (p < nL ti) = true := fun p hp => by
    rw [Bool.and_eq_true] at hp; exact hp.1
  have an : ∀ (P Q : Nat → Bool), (∀ p, P p = true → Q p = true) → ∀ p, (P p && !mB tl p) = true → (Q p && !mB tl p) = true := fun P Q h p hp => by
    rw [Bool.and_eq_true] at hp ⊢; exact ⟨h p hp.1, hp.2⟩
  refine ⟨?_, ?_, ?_, ?_⟩
  · exact b6_sand (fun j hj => anL_mono (an _ _ sub2) hj) (fun j hj => anL_mono (an _ _ sub1) hj) h1
  · exact b6_sand (fun j hj => anL_mono (an _ _ sub2) hj) (fun j hj => anL_mono (an _ _ sub1) hj) h2
  · intro p hp q1 q2
    obtain ⟨o, o1, o2, o3⟩ := h3 p hp q1 q2
    exact ⟨o, o1, sub1 o o2, o3⟩
  · intro p hp q1 q2
    exact ⟨p, hp, sub2 p q1, q2, rfl, rfl⟩
noncomputable def fbs (ti : cM1) (tl : cM2) : Nat → Nat
  | 0 => 2 ^ nL ti - 1
  | m + 1 => @ite _ (pc m < pc (fbs ti tl m) ∧ smP ti tl m) (Classical.propDecidable _) m (fbs ti tl m)
theorem fbs_lt (ti : cM1) (tl : cM2) : ∀ m, m ≤ 2 ^ nL ti → fbs ti tl m < 2 ^ nL ti
  | 0, _ => by show 2 ^ nL ti - 1 < _; have := Nat.two_pow_pos (nL ti); omega
  | m + 1, h => by
    show (@ite _ _ (Classical.propDecidable _) m (fbs ti tl m)) < _
    split
    · omega
    · exact fbs_lt ti tl m (by omega)
theorem sub_le {a b : Nat} (h : ∀ i, a.testBit i = true → b.testBit i = true) : a ≤ b := by
  have e : a &&& b = a := by
    apply Nat.eq_of_testBit_eq
    intro i
    rw [Nat.testBit_and]
    cases ha : a.testBit i with
    | false => rfl
    | true => rw [h i ha]; rfl
  rw [← e]
  exact Nat.and_le_right
theorem sup_eq {a b : Nat} (ha : a < 2 ^ 31) (hb : b < 2 ^ 31) : (nI a &&& nI b = nI b) = (∀ i, b.testBit i = true → a.testBit i = true) := by
  apply propext
  constructor
  · intro h i hi
    have hi32 : i < 32 := by
      by_cases q : i < 32
      · exact q
      · rw [Nat.testBit_lt_two_pow (Nat.lt_of_lt_of_le hb (Nat.pow_le_pow_right (by decide) (by omega)))] at hi; cases hi
    have q : b3 (nI a &&& nI b) i = b3 (nI b) i := by rw [h]
    rw [b3_and, b3_nI (by omega), b3_nI (by omega), hi] at q
    simpa using q
  · intro h
    apply b3_ext
    intro i _
    rw [b3_and, b3_nI (by omega), b3_nI (by omega)]
    cases q : b.testBit i with
    | false => simp
    | true => rw [h i q]; rfl
theorem fbs_nd {nd : Nat} (hnd : ∀ l, nd.testBit l = true → ¬ idP ti tl l) : ∀ m, m ≤ nd → fbs ti tl m = 2 ^ nL ti - 1
  | 0, _ => rfl
  | m + 1, h => by
    show (@ite _ _ (Classical.propDecidable _) m (fbs ti tl m)) = _
    rw [if_neg]
    · exact fbs_nd hnd m (by omega)
    · rintro ⟨_, h2⟩
      have : nd ≤ m := sub_le (fun i hi => by
        cases q : m.testBit i with
        | true => rfl
        | false => exact absurd (sm_id h2 q) (hnd i hi))
      omega
set_option maxHeartbeats 1000000 in
theorem s_fewestAlike (O : okT ti) (H : eqP ti tl mi ml) : ∃ a b, cS ro (d + 6) 58 [.ref 9] mi ml (some (.int (nI (fbs ti tl (2 ^ nL ti))))) mi (op ml a b) := by
  have hL := O.L2
  have h2 : 2 ^ nL ti ≤ 4096 := p12 hL
  obtain ⟨nd, a, b, s1, hn1, hn2⟩ := s_needed (ro := ro) (d := d) O H
  obtain ⟨r, s2, hr⟩ := s_wholeT (ro := ro) (d := d + 4) O (H.op a b)
  have e1 : b6 r = fun p => decide (p < nL ti) := funext hr
  have hnd : ∀ l, nd.testBit l = true → ¬ idP ti tl l := fun l hl => by
    by_cases q : l < nL ti
    · exact (hn2 l q).1 hl
    · rw [Nat.testBit_lt_two_pow (Nat.lt_of_lt_of_le hn1 (Nat.pow_le_pow_right (by decide) (by omega)))] at hl; cases hl
  have key : ∃ mi' ml', cS ro (d + 6) 58 [.ref 9] mi ml (some (.int (nI (fbs ti tl (2 ^ nL ti))))) mi' ml' ∧ (mi' = mi ∧ ∃ a b, ml' = op ml a b) := by
    refine ab_ex_q rfl rfl (fun Q hQ => vc_X6_fewestAlike_0 mi ml ⟨_, _, _, s1, _, _, _, s2, ?_⟩)
    rw [whole_i hL hr, ← fbs_nd hnd nd (Nat.le_refl _)]
    refine up (n := 2 ^ nL ti) (F := fun m => nd ≤ m → ∀ a b, W_X6_fewestAlike_13 (cs ro (d + 5)) ro Q (nI nd) (nI (fbs ti tl m)) (nI m) mi (op ml a b)) (fun m hm ih hge a b => ?_) (fun hge a b => ?_) nd (by omega) (Nat.le_refl _) a b
    · refine vc_X6_fewestAlike_13 _ _ _ mi _ ?_
      have hf := fbs_lt ti tl m (by omega)
      obtain ⟨r, s2, hr⟩ := s_wholeT (ro := ro) (d := d + 4) O (H.op a b)
      have e1 : b6 r = fun p => decide (p < nL ti) := funext hr
      have s3 := s_meanSame (ro := ro) (d := d + 2) (mi := mi) (ml := op ml a b) (nI m).toInt64 r
      have e2 : b6 (nI m).toInt64 = fun p => decide (p < nL ti) && m.testBit p := by
        funext p
        rw [b6_l m (by omega)]
        by_cases q : p < nL ti
        · simp [q]
        · rw [Nat.testBit_lt_two_pow (Nat.lt_of_lt_of_le hm (Nat.pow_le_pow_right (by decide) (by omega)))]; simp
      rw [e1, e2, op_mS, H.qmS, op_op] at s3
      have hst : fbs ti tl (m + 1) = @ite _ (pc m < pc (fbs ti tl m) ∧ smP ti tl m) (Classical.propDecidable _) m (fbs ti tl m) := rfl
      have p1 := pcn_le (b3 (nI m)) 30
      have p2 := pcn_le (b3 (nI (fbs ti tl m))) 30
      rw [H.e93, O.L, bit_n (by omega), sup_eq (by omega) (by omega)]
      simp (disch := omega) only [hm, nI_ltI, nI_eq, nI_clamp, nI_1, xl_0, xg_0, xe_0, xe_m1, nI_0, xl_1, xl_2, xl_3, xl_4, xl_5, xl_6, xl_7, xl_8, xl_9, xl_10, xl_12, xl_20, xl_30, xl_32, xl_40, xl_41, xl_42, xl_48, xl_57, xl_59, xl_64, xl_97, xl_100, xl_122, xl_126, xl_128, xl_1000, xl_9999, xg_1, xg_2, xg_3, xg_4, xg_5, xg_6, xg_7, xg_8, xg_9, xg_10, xg_12, xg_20, xg_30, xg_32, xg_40, xg_41, xg_42, xg_48, xg_57, xg_59, xg_64, xg_97, xg_100, xg_122, xg_126, xg_128, xg_1000, xg_9999, xe_1, xe_2, xe_3, xe_4, xe_5, xe_6, xe_7, xe_8, xe_9, xe_10, xe_12, xe_20, xe_30, xe_32, xe_40, xe_41, xe_42, xe_48, xe_57, xe_59, xe_64, xe_97, xe_100, xe_122, xe_126, xe_128, xe_1000, xe_9999, true_implies, false_implies, not_true_eq_false, not_false_eq_true, and_true, true_and, forall_const, imp_self, lc_eq, implies_true, vin, Bool.true_eq_false, Bool.false_eq_true, false_and, and_false, or_false, false_or, or_true, true_or]
      refine ⟨fun c => ⟨_, _, _, s_bc3 _, _, _, _, s_bc3 _, ?_⟩, fun c => ?_⟩
      · rw [pc_32 (by omega), pc_32 (by omega), nI_ltI (by unfold pc; omega) (by unfold pc; omega)]
        refine ⟨fun c2 => ⟨_, _, _, s2, _, _, _, s3, ?_⟩, fun c2 => ?_⟩
        · rw [pI_e0]
          refine ⟨fun c3 => ?_, fun c3 => ?_⟩
          · rw [← (show fbs ti tl (m + 1) = fbs ti tl m by rw [hst, if_neg (fun q => c3 q.2)])]; exact ih (by omega) _ _
          · have q := ih (by omega) (oA (op ml a b) (b6 r)) (oB (op ml a b) (b6 r))
            rw [hst, if_pos ⟨c2, Classical.not_not.1 c3⟩, e1] at q
            exact q
        · rw [← (show fbs ti tl (m + 1) = fbs ti tl m by rw [hst, if_neg (fun q => c2 q.1)])]; exact ih (by omega) _ _
      · rw [← (show fbs ti tl (m + 1) = fbs ti tl m by
          rw [hst, if_neg]
          rintro ⟨_, q⟩
          exact c (fun i hi => by
            cases q2 : m.testBit i with
            | true => rfl
            | false => exact absurd (sm_id q q2) (hnd i hi)))]
        exact ih (by omega) _ _
    · refine vc_X6_fewestAlike_13 _ _ _ mi _ ?_
      rw [H.e93, O.L, bit_n (by omega)]
      simp (disch := omega) only [Nat.lt_irrefl, nI_ltI, nI_eq, nI_clamp, nI_1, xl_0, xg_0, xe_0, xe_m1, nI_0, xl_1, xl_2, xl_3, xl_4, xl_5, xl_6, xl_7, xl_8, xl_9, xl_10, xl_12, xl_20, xl_30, xl_32, xl_40, xl_41, xl_42, xl_48, xl_57, xl_59, xl_64, xl_97, xl_100, xl_122, xl_126, xl_128, xl_1000, xl_9999, xg_1, xg_2, xg_3, xg_4, xg_5, xg_6, xg_7, xg_8, xg_9, xg_10, xg_12, xg_20, xg_30, xg_32, xg_40, xg_41, xg_42, xg_48, xg_57, xg_59, xg_64, xg_97, xg_100, xg_122, xg_126, xg_128, xg_1000, xg_9999, xe_1, xe_2, xe_3, xe_4, xe_5, xe_6, xe_7, xe_8, xe_9, xe_10, xe_12, xe_20, xe_30, xe_32, xe_40, xe_41, xe_42, xe_48, xe_57, xe_59, xe_64, xe_97, xe_100, xe_122, xe_126, xe_128, xe_1000, xe_9999, true_implies, false_implies, not_true_eq_false, not_false_eq_true, and_true, true_and, forall_const, imp_self, lc_eq, implies_true, vin, Bool.true_eq_false, Bool.false_eq_true, false_and, and_false, or_false, false_or, or_true, true_or]
      exact hQ _ _ ⟨rfl, a, b, rfl⟩
  obtain ⟨mi', ml', h1, rfl, a, b, rfl⟩ := key
  exact ⟨a, b, h1⟩
theorem s_draftBy (O : okT ti) (H : eqP ti tl mi ml) (hc : mi 0 12 = 0 → gP ti tl mi ml ∧ kP ti tl ml) {wt : Nat} (hw : wt < 4) : ∃ mi' ml', cS ro (d + 20) 139 [.ref 0, .int (nI wt)] mi ml (some (.int (dI (drf ti tl wt)))) mi' ml' ∧ cP ti tl mi' ml' ∧ ∀ t, drf ti tl wt = some t → mi' 34 4 = nI (ws (wei ti tl wt) t (nD ti tl)) := by
  obtain ⟨mi1, ml1, s1, C1⟩ := s_settle (ro := ro) (d := d + 12) O H hc
  obtain ⟨mi2, ml2, s2, C2, h2⟩ := s_pick (ro := ro) (d := d) O C1 hw
  have e : cSeen mi1 = cSeen ti := C1.1.qcSeen
  refine ⟨mi2, ml2, ab_sem_q rfl rfl (fun Q hQ => vc_X11_draftBy_0 _ mi ml ?_), C2, h2⟩
  have h3 : ¬ 3 < wt := by omega
  simp (disch := omega) only [h3, nI_ltI, nI_eq, nI_clamp, nI_1, xl_0, xg_0, xe_0, xe_m1, nI_0, xl_1, xl_2, xl_3, xl_4, xl_5, xl_6, xl_7, xl_8, xl_9, xl_10, xl_12, xl_20, xl_30, xl_32, xl_40, xl_41, xl_42, xl_48, xl_57, xl_59, xl_64, xl_97, xl_100, xl_122, xl_126, xl_128, xl_1000, xl_9999, xg_1, xg_2, xg_3, xg_4, xg_5, xg_6, xg_7, xg_8, xg_9, xg_10, xg_12, xg_20, xg_30, xg_32, xg_40, xg_41, xg_42, xg_48, xg_57, xg_59, xg_64, xg_97, xg_100, xg_122, xg_126, xg_128, xg_1000, xg_9999, xe_1, xe_2, xe_3, xe_4, xe_5, xe_6, xe_7, xe_8, xe_9, xe_10, xe_12, xe_20, xe_30, xe_32, xe_40, xe_41, xe_42, xe_48, xe_57, xe_59, xe_64, xe_97, xe_100, xe_122, xe_126, xe_128, xe_1000, xe_9999, true_implies, false_implies, not_true_eq_false, not_false_eq_true, and_true, true_and, forall_const, imp_self, lc_eq, implies_true, vin, Bool.true_eq_false, Bool.false_eq_true, false_and, and_false, or_false, false_or, or_true, true_or]
  exact ⟨_, _, s1, _, _, _, e ▸ s_seen, _, _, _, s2, hQ⟩
theorem s_draftBy_no {x : Int32} (h : x < 0 ∨ 3 < x) : cS ro (d + 1) 139 [.ref 0, .int x] mi ml (some (.int (-1))) mi ml := by
  refine ab_sem_q rfl rfl (fun Q hQ => vc_X11_draftBy_0 _ mi ml ?_)
  by_cases c : x < 0
  · exact ⟨fun _ => hQ, fun h => absurd c h⟩
  · have c2 : 3 < x := h.resolve_left c
    exact ⟨fun h => absurd h c, fun _ => ⟨fun _ => hQ, fun h => absurd c2 h⟩⟩
noncomputable def claN (ti : cM1) (tl : cM2) (g h : Nat) : Int32 := @ite _ (touP ti tl (led ti tl g) (led ti tl h)) (Classical.propDecidable _) 1 (cQ tl (lawS ti tl (fun i => decide (i = g) || decide (i = h))))
noncomputable def rivP (ti : cM1) (tl : cM2) (s g h : Nat) : Prop := s.testBit h = true ∧ ¬ h = g ∧ ¬ claN ti tl g h = 0
theorem s_rivalIn (O : okT ti) (C : cP ti tl mi ml) {s g : Nat} (hs : s < 2 ^ nD ti tl) (hg : g < nG ti tl) : ∃ ml', cS ro (d + 5) 140 [.ref 0, .int (nI s), .int (nI g)] mi ml (some (.int (fI (rivP ti tl s g) 12))) mi ml' ∧ cP ti tl mi ml' := by
  have hW := O.W2
  have hG := nG_le ti tl
  have hD := nD_le ti tl
  have h2 := p12 hD.1
  have key : ∃ mi' ml', cS ro (d + 5) 140 [.ref 0, .int (nI s), .int (nI g)] mi ml (some (.int (fI (rivP ti tl s g) 12))) mi' ml' ∧ (mi' = mi ∧ cP ti tl mi ml') := by
    refine ab_ex_q rfl rfl (fun Q hQ => vc_X11_rivalIn_0 _ _ mi ml ?_)
    refine up0 (n := 12) (F := fun i => ∀ ml, cP ti tl mi ml → (∀ j, j < i → ¬ rivP ti tl s g j) → W_X11_rivalIn_2 (cs ro (d + 4)) ro Q (nI s) (nI g) (nI i) mi ml) (fun i hi ih ml C hno => ?_) (fun ml C hno => ?_) ml C (fun j hj => absurd hj (Nat.not_lt_zero j))
    · refine vc_X11_rivalIn_2 _ _ _ mi ml ?_
      have hn : ¬ rivP ti tl s g i → ∀ j, j < i + 1 → ¬ rivP ti tl s g j := fun h j hj => by
        rcases Nat.lt_or_eq_of_le (Nat.le_of_lt_succ hj) with q | q
        · exact hno j q
        · rw [q]; exact h
      simp (disch := omega) only [hi, b3_a0, b3_a1, nI_ltI, nI_eq, nI_clamp, nI_1, xl_0, xg_0, xe_0, xe_m1, nI_0, xl_1, xl_2, xl_3, xl_4, xl_5, xl_6, xl_7, xl_8, xl_9, xl_10, xl_12, xl_20, xl_30, xl_32, xl_40, xl_41, xl_42, xl_48, xl_57, xl_59, xl_64, xl_97, xl_100, xl_122, xl_126, xl_128, xl_1000, xl_9999, xg_1, xg_2, xg_3, xg_4, xg_5, xg_6, xg_7, xg_8, xg_9, xg_10, xg_12, xg_20, xg_30, xg_32, xg_40, xg_41, xg_42, xg_48, xg_57, xg_59, xg_64, xg_97, xg_100, xg_122, xg_126, xg_128, xg_1000, xg_9999, xe_1, xe_2, xe_3, xe_4, xe_5, xe_6, xe_7, xe_8, xe_9, xe_10, xe_12, xe_20, xe_30, xe_32, xe_40, xe_41, xe_42, xe_48, xe_57, xe_59, xe_64, xe_97, xe_100, xe_122, xe_126, xe_128, xe_1000, xe_9999, true_implies, false_implies, not_true_eq_false, not_false_eq_true, and_true, true_and, forall_const, imp_self, lc_eq, implies_true, vin, Bool.true_eq_false, Bool.false_eq_true, false_and, and_false, or_false, false_or, or_true, true_or]
      rw [b3_nI (by omega)]
      refine ⟨fun c => ih _ C (hn (fun q => by have := q.1; rw [c] at this; cases this)), fun c => ⟨fun c2 => ih _ C (hn (fun q => q.2.1 c2)), fun c2 => ?_⟩⟩
      have c' : s.testBit i = true := by simpa using c
      have hi2 : i < nG ti tl := by
        by_cases q : i < nD ti tl
        · omega
        · rw [Nat.testBit_lt_two_pow (Nat.lt_of_lt_of_le hs (Nat.pow_le_pow_right (by decide) (by omega)))] at c'; cases c'
      obtain ⟨ml', s1, C1, _⟩ := s_clashOf (ro := ro) (d := d) O C hg hi2
      refine ⟨_, _, _, s1, fun c3 => ih _ C1 (hn (fun q => q.2.2 c3)), fun c3 => ?_⟩
      rw [fI_hit (P := rivP ti tl s g) ⟨c', c2, c3⟩ hno hi (by decide)] at hQ
      exact hQ _ _ ⟨rfl, C1⟩
    · refine vc_X11_rivalIn_2 _ _ _ mi ml ?_
      simp (disch := omega) only [Nat.lt_irrefl, nI_ltI, nI_eq, nI_clamp, nI_1, xl_0, xg_0, xe_0, xe_m1, nI_0, xl_1, xl_2, xl_3, xl_4, xl_5, xl_6, xl_7, xl_8, xl_9, xl_10, xl_12, xl_20, xl_30, xl_32, xl_40, xl_41, xl_42, xl_48, xl_57, xl_59, xl_64, xl_97, xl_100, xl_122, xl_126, xl_128, xl_1000, xl_9999, xg_1, xg_2, xg_3, xg_4, xg_5, xg_6, xg_7, xg_8, xg_9, xg_10, xg_12, xg_20, xg_30, xg_32, xg_40, xg_41, xg_42, xg_48, xg_57, xg_59, xg_64, xg_97, xg_100, xg_122, xg_126, xg_128, xg_1000, xg_9999, xe_1, xe_2, xe_3, xe_4, xe_5, xe_6, xe_7, xe_8, xe_9, xe_10, xe_12, xe_20, xe_30, xe_32, xe_40, xe_41, xe_42, xe_48, xe_57, xe_59, xe_64, xe_97, xe_100, xe_122, xe_126, xe_128, xe_1000, xe_9999, true_implies, false_implies, not_true_eq_false, not_false_eq_true, and_true, true_and, forall_const, imp_self, lc_eq, implies_true, vin, Bool.true_eq_false, Bool.false_eq_true, false_and, and_false, or_false, false_or, or_true, true_or]
      rw [fI_none hno] at hQ
      exact hQ _ _ ⟨rfl, C⟩
  obtain ⟨mi', ml', h1, rfl, h2⟩ := key
  exact ⟨ml', h1, h2⟩
noncomputable def reaI (ti : cM1) (tl : cM2) (s g : Nat) (r : Int32) : Int32 := if s.testBit g = true then 0 else @ite _ (goN ti tl (2 ^ g)) (Classical.propDecidable _) (if r = -1 then @ite _ (goN ti tl (s ||| 2 ^ g)) (Classical.propDecidable _) 4 3 else 2) 1
theorem s_reasonAgainst (O : okT ti) (C : cP ti tl mi ml) {s g : Nat} (hs : s < 2 ^ 30) (hg : g < 30) (r : Int32) : ∃ ml', cS ro (d + 6) 141 [.ref 0, .int (nI s), .int (nI g), .int r] mi ml (some (.int (reaI ti tl s g r))) mi ml' ∧ cP ti tl mi ml' := by
  have key : ∃ mi' ml', cS ro (d + 6) 141 [.ref 0, .int (nI s), .int (nI g), .int r] mi ml (some (.int (reaI ti tl s g r))) mi' ml' ∧ (mi' = mi ∧ cP ti tl mi ml') := by
    refine ab_ex_q rfl rfl (fun Q hQ => vc_X11_reasonAgainst_0 _ _ _ mi ml ?_)
    rw [bit3_0 _ (by omega), b3_nI (by omega), or_bit hs hg, bit_n hg]
    unfold reaI at hQ
    refine ⟨fun c => ?_, fun c => ?_⟩
    · rw [c, if_neg (by decide)] at hQ
      obtain ⟨ml1, s1, C1, _⟩ := s_goesN (ro := ro) (d := d) O C (s := 2 ^ g) (p2lt hg)
      refine ⟨_, _, _, s1, ?_⟩
      rw [pI_e0]
      refine ⟨fun c2 => ?_, fun c2 => ⟨fun c3 => ?_, fun c3 => ?_⟩⟩
      · rw [if_neg c2] at hQ; exact hQ _ _ ⟨rfl, C1⟩
      · obtain ⟨ml2, s2, C2, _⟩ := s_goesN (ro := ro) (d := d) O C1 (s := s ||| 2 ^ g) (or_lt hs hg)
        rw [if_pos (Classical.not_not.1 c2), if_pos c3] at hQ
        refine ⟨_, _, _, s2, ?_⟩
        rw [pI_e0]
        refine ⟨fun c4 => ?_, fun c4 => ?_⟩
        · rw [if_neg c4] at hQ; exact hQ _ _ ⟨rfl, C2⟩
        · rw [if_pos (Classical.not_not.1 c4)] at hQ; exact hQ _ _ ⟨rfl, C2⟩
      · rw [if_pos (Classical.not_not.1 c2), if_neg c3] at hQ; exact hQ _ _ ⟨rfl, C1⟩
    · have c' : s.testBit g = true := by simpa using c
      rw [if_pos c'] at hQ
      exact hQ _ _ ⟨rfl, C⟩
  obtain ⟨mi', ml', h1, rfl, h2⟩ := key
  exact ⟨ml', h1, h2⟩
/-- the law of the places P allows the world w -/
noncomputable def alw (tl : cM2) (P : Nat → Bool) (w : Nat) : Bool := wB (oA tl P) (oB tl P) w
theorem s_allowsT (C : cP ti tl mi ml) (r : Int64) {w : Nat} (hw : w < 128) : ∃ ml', cS ro (d + 3) 52 [.ref 9, .long r, .int (nI w)] mi ml (some (.int (bI (alw tl (b6 r) w)))) mi ml' ∧ cP ti tl mi ml' := by
  have s1 := s_allows (ro := ro) (d := d) (mi := mi) (ml := ml) r hw
  rw [C.1.qoA, C.1.qoB] at s1
  exact ⟨_, s1, C.op _ _⟩
noncomputable def losP (ti : cM1) (tl : cM2) (A B : Nat → Bool) (c : Nat) : Prop := csP ti c ∧ alw tl A (ti 19 c).toNatClampNeg = true ∧ alw tl B (ti 19 c).toNatClampNeg = false
theorem s_casesLost (O : okT ti) (C : cP ti tl mi ml) (a b : Int64) : ∃ ml', cS ro (d + 4) 142 [.ref 0, .long a, .long b] mi ml (some (.int (nI (pcn (fun c => pB (losP ti tl (b6 a) (b6 b) c)) (nC ti))))) mi ml' ∧ cP ti tl mi ml' := by
  have hC := O.C2
  have key : ∃ mi' ml', cS ro (d + 4) 142 [.ref 0, .long a, .long b] mi ml (some (.int (nI (pcn (fun c => pB (losP ti tl (b6 a) (b6 b) c)) (nC ti))))) mi' ml' ∧ (mi' = mi ∧ cP ti tl mi ml') := by
    refine ab_ex_q rfl rfl (fun Q hQ => vc_X11_casesLost_0 _ _ mi ml ?_)
    refine up0 (n := nC ti) (F := fun i => ∀ ml, cP ti tl mi ml → W_X11_casesLost_6 (cs ro (d + 3)) ro Q a b (nI (pcn (fun c => pB (losP ti tl (b6 a) (b6 b) c)) i)) (nI i) mi ml) (fun i hi ih ml C => ?_) (fun ml C => ?_) ml C
    · refine vc_X11_casesLost_6 _ _ _ _ mi ml ?_
      obtain ⟨⟨x, hx, ex⟩, _⟩ := O.c i hi
      obtain ⟨ml1, s1, C1⟩ := s_allowsT (ro := ro) (d := d) C a hx
      obtain ⟨ml2, s2, C2⟩ := s_allowsT (ro := ro) (d := d) C1 b hx
      have H := C.1
      have e : cSeen mi = cSeen ti := H.qcSeen
      have ex2 : (ti 19 i).toNatClampNeg = x := by rw [ex, nI_clamp (by omega)]
      have no : ¬ losP ti tl (b6 a) (b6 b) i → ∀ ml, cP ti tl mi ml → W_X11_casesLost_6 (cs ro (d + 3)) ro Q a b (nI (pcn (fun c => pB (losP ti tl (b6 a) (b6 b) c)) i)) (nI (i + 1)) mi ml := fun hn ml C => by
        rw [pcn_s0 (f := fun c => pB (losP ti tl (b6 a) (b6 b) c)) (n := i) (pB_f.2 hn)]; exact ih ml C
      simp (disch := omega) only [H.e182, H.e20, H.e19, O.C, hi, ex, nI_ltI, nI_eq, nI_clamp, nI_1, xl_0, xg_0, xe_0, xe_m1, nI_0, xl_1, xl_2, xl_3, xl_4, xl_5, xl_6, xl_7, xl_8, xl_9, xl_10, xl_12, xl_20, xl_30, xl_32, xl_40, xl_41, xl_42, xl_48, xl_57, xl_59, xl_64, xl_97, xl_100, xl_122, xl_126, xl_128, xl_1000, xl_9999, xg_1, xg_2, xg_3, xg_4, xg_5, xg_6, xg_7, xg_8, xg_9, xg_10, xg_12, xg_20, xg_30, xg_32, xg_40, xg_41, xg_42, xg_48, xg_57, xg_59, xg_64, xg_97, xg_100, xg_122, xg_126, xg_128, xg_1000, xg_9999, xe_1, xe_2, xe_3, xe_4, xe_5, xe_6, xe_7, xe_8, xe_9, xe_10, xe_12, xe_20, xe_30, xe_32, xe_40, xe_41, xe_42, xe_48, xe_57, xe_59, xe_64, xe_97, xe_100, xe_122, xe_126, xe_128, xe_1000, xe_9999, true_implies, false_implies, not_true_eq_false, not_false_eq_true, and_true, true_and, forall_const, imp_self, lc_eq, implies_true, vin, Bool.true_eq_false, Bool.false_eq_true, false_and, and_false, or_false, false_or, or_true, true_or]
      refine ⟨_, _, _, e ▸ s_seen, fun c => no (fun q => q.1 c) ml C, fun c => ⟨_, _, _, s1, ?_⟩⟩
      rw [bI_0]
      refine ⟨fun c2 => no (fun q => by rw [losP, ex2, c2] at q; cases q.2.1) ml1 C1, fun c2 => ⟨_, _, _, s2, ?_⟩⟩
      rw [bI_0]
      refine ⟨fun c3 => ?_, fun c3 => no (fun q => c3 (by rw [losP, ex2] at q; exact q.2.2)) ml2 C2⟩
      rw [pcn_s1 (f := fun c => pB (losP ti tl (b6 a) (b6 b) c)) (n := i) (pB_iff.2 ⟨c, by rw [ex2]; simpa using c2, by rw [ex2]; exact c3⟩)]
      exact ih _ C2
    · refine vc_X11_casesLost_6 _ _ _ _ mi ml ?_
      have H := C.1
      simp (disch := omega) only [H.e182, O.C, Nat.lt_irrefl, nI_ltI, nI_eq, nI_clamp, nI_1, xl_0, xg_0, xe_0, xe_m1, nI_0, xl_1, xl_2, xl_3, xl_4, xl_5, xl_6, xl_7, xl_8, xl_9, xl_10, xl_12, xl_20, xl_30, xl_32, xl_40, xl_41, xl_42, xl_48, xl_57, xl_59, xl_64, xl_97, xl_100, xl_122, xl_126, xl_128, xl_1000, xl_9999, xg_1, xg_2, xg_3, xg_4, xg_5, xg_6, xg_7, xg_8, xg_9, xg_10, xg_12, xg_20, xg_30, xg_32, xg_40, xg_41, xg_42, xg_48, xg_57, xg_59, xg_64, xg_97, xg_100, xg_122, xg_126, xg_128, xg_1000, xg_9999, xe_1, xe_2, xe_3, xe_4, xe_5, xe_6, xe_7, xe_8, xe_9, xe_10, xe_12, xe_20, xe_30, xe_32, xe_40, xe_41, xe_42, xe_48, xe_57, xe_59, xe_64, xe_97, xe_100, xe_122, xe_126, xe_128, xe_1000, xe_9999, true_implies, false_implies, not_true_eq_false, not_false_eq_true, and_true, true_and, forall_const, imp_self, lc_eq, implies_true, vin, Bool.true_eq_false, Bool.false_eq_true, false_and, and_false, or_false, false_or, or_true, true_or]
      exact hQ _ _ ⟨rfl, C⟩
  obtain ⟨mi', ml', h1, rfl, h2⟩ := key
  exact ⟨ml', h1, h2⟩
end RO
