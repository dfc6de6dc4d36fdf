/-! feed. -/
abbrev tSt : Type := Nat × (Nat → Nat)
def tstep (z : tSt) (c : Nat) : tSt := if (c = 10 ∨ 32 ≤ c ∧ c ≤ 126) ∧ z.1 < 1000 then (z.1 + 1, fun i => if i = z.1 then c else z.2 i) else z
def eight (v : Int64) : tSt → Nat → tSt
  | z, 0 => z
  | z, k + 1 => eight v (tstep z (sgn v (8 * k))) k
def tOK (z : tSt) : Prop := z.1 ≤ 1000 ∧ ∀ i, i < z.1 → z.2 i = 10 ∨ 32 ≤ z.2 i ∧ z.2 i ≤ 126
theorem tOK.st {z : tSt} (h : tOK z) (c : Nat) : tOK (tstep z c) := by
  unfold tstep
  by_cases q : (c = 10 ∨ 32 ≤ c ∧ c ≤ 126) ∧ z.1 < 1000
  · rw [if_pos q]
    refine ⟨q.2, fun i hi => ?_⟩
    show (if i = z.1 then c else z.2 i) = 10 ∨ 32 ≤ (if i = z.1 then c else z.2 i) ∧ (if i = z.1 then c else z.2 i) ≤ 126
    by_cases e : i = z.1
    · rw [if_pos e]; exact q.1
    · rw [if_neg e]
      have hi : i < z.1 + 1 := hi
      exact h.2 i (by omega)
  · rw [if_neg q]; exact h
theorem tOK.e {v : Int64} : ∀ {k : Nat} {z : tSt}, tOK z → tOK (eight v z k)
  | 0, _, h => h
  | k + 1, _, h => tOK.e (k := k) (h.st _)
section FE
variable {ro : ab_E} {d : Nat} {ti mi vi : cM1} {tl ml vl : cM2}
theorem nar_y : ∀ c, c < 127 → vp_nar .byte (nI c).toInt8.toInt32 = nI c := by decide +kernel
theorem srt_lt (c : Nat) : srt c < 127 := by unfold srt; (repeat' split) <;> omega
theorem s_sortOf {c : Nat} (hc : c < 256) : cS ro (d + 1) 82 [.int (nI c)] mi ml (some (.int (nI (srt c)))) mi ml := by
  refine ab_sem_q rfl rfl (fun Q hQ => vc_X8_sortOf_0 _ mi ml ?_)
  have fin : ∀ k, srt c = k → Q (some (.int (nI k))) (ab_G mi ml) := fun k h => h ▸ hQ
  simp (disch := omega) only [nI_ltI, nI_eq, nI_clamp, nI_1, xl_0, xg_0, xe_0, xe_m1, nI_0, xl_1, xl_2, xl_3, xl_4, xl_5, xl_6, xl_7, xl_8, xl_9, xl_10, xl_12, xl_20, xl_30, xl_32, xl_40, xl_41, xl_42, xl_48, xl_57, xl_59, xl_64, xl_97, xl_100, xl_122, xl_126, xl_128, xl_1000, xl_9999, xg_1, xg_2, xg_3, xg_4, xg_5, xg_6, xg_7, xg_8, xg_9, xg_10, xg_12, xg_20, xg_30, xg_32, xg_40, xg_41, xg_42, xg_48, xg_57, xg_59, xg_64, xg_97, xg_100, xg_122, xg_126, xg_128, xg_1000, xg_9999, xe_1, xe_2, xe_3, xe_4, xe_5, xe_6, xe_7, xe_8, xe_9, xe_10, xe_12, xe_20, xe_30, xe_32, xe_40, xe_41, xe_42, xe_48, xe_57, xe_59, xe_64, xe_97, xe_100, xe_122, xe_126, xe_128, xe_1000, xe_9999, true_implies, false_implies, not_true_eq_false, not_false_eq_true, and_true, true_and, forall_const, imp_self, lc_eq, implies_true, vin, Bool.true_eq_false, Bool.false_eq_true, false_and, and_false, or_false, false_or, or_true, true_or]
  repeat' (apply And.intro <;> intro _)
  all_goals first
    | exact fin 1 (by unfold srt; (repeat' split) <;> omega)
    | exact fin 2 (by unfold srt; (repeat' split) <;> omega)
    | exact fin 3 (by unfold srt; (repeat' split) <;> omega)
    | exact fin 4 (by unfold srt; (repeat' split) <;> omega)
    | exact fin 5 (by unfold srt; (repeat' split) <;> omega)
    | exact fin 6 (by unfold srt; (repeat' split) <;> omega)
    | exact fin 7 (by unfold srt; (repeat' split) <;> omega)
/-- the class's tape -/
def cT (z : tSt) (mi : cM1) : Prop := mi 2 2 = nI z.1 ∧ ∀ i, i < z.1 → mi 3 i = nI (z.2 i) ∧ mi 4 i = nI (srt (z.2 i))
/-- the reference's -/
def mT (z : tSt) (mi : cM1) : Prop := mi 40 2 = nI z.1 ∧ ∀ i, i < z.1 → mi 41 i = nI (z.2 i)
theorem n8m (k : Nat) : nI (8 * (k + 1)) + (-8) = nI (8 * k) := by
  have : nI (8 * (k + 1)) = nI (8 * k) + 8 := by
    rw [show 8 * (k + 1) = 8 * k + 8 by omega]; exact (nI_add (8 * k) 8).symm
  rw [this]
  have : nI (8 * k) + 8 + (-8) = nI (8 * k) + (8 + (-8)) := Int32.add_assoc _ _ _
  rw [this]
  exact Int32.add_zero _
theorem s_putEight {z : tSt} (Z : tOK z) (T : cT z mi) (v : Int64) : ∃ mi', cS ro (d + 2) 81 [.ref 2, .long v] mi ml none mi' ml ∧ cT (eight v z 8) mi' ∧ ∀ k j, ¬ (k = 3 ∨ k = 4 ∨ (k = 2 ∧ j = 2)) → mi' k j = mi k j := by
  have key : ∃ mi' ml', cS ro (d + 2) 81 [.ref 2, .long v] mi ml none mi' ml' ∧ (ml' = ml ∧ cT (eight v z 8) mi' ∧ ∀ k j, ¬ (k = 3 ∨ k = 4 ∨ (k = 2 ∧ j = 2)) → mi' k j = mi k j) := by
    refine ab_ex_q rfl rfl (fun Q hQ => vc_X8_putEight_0 _ mi ml ?_)
    have loop : ∀ k, k ≤ 8 → ∀ z, tOK z → ∀ mi', cT z mi' → (∀ k j, ¬ (k = 3 ∨ k = 4 ∨ (k = 2 ∧ j = 2)) → mi' k j = mi k j) → (∀ mi'', cT (eight v z k) mi'' → (∀ k j, ¬ (k = 3 ∨ k = 4 ∨ (k = 2 ∧ j = 2)) → mi'' k j = mi k j) → Q none (ab_G mi'' ml)) → W_X8_putEight_3 (cs ro (d + 1)) ro Q v (nI (8 * k) + (-8)) mi' ml := by
      intro k
      induction k with
      | zero =>
        intro _ z Z mi' T F hQ
        refine vc_X8_putEight_3 _ _ mi' ml ?_
        have e : (nI (8 * 0) + (-8) < 0) = True := eq_true (by decide)
        rw [e]
        exact ⟨fun _ => hQ mi' T F, fun q => absurd trivial q⟩
      | succ k ih =>
        intro hk z Z mi' T F hQ
        refine vc_X8_putEight_3 _ _ mi' ml ?_
        rw [n8m, sgn_u v (by omega)]
        have hc := sgn_lt v (8 * k)
        have he : eight v z (k + 1) = eight v (tstep z (sgn v (8 * k))) k := rfl
        rw [he] at hQ
        have z1 := Z.1
        have skip : ¬ ((sgn v (8 * k) = 10 ∨ 32 ≤ sgn v (8 * k) ∧ sgn v (8 * k) ≤ 126) ∧ z.1 < 1000) → W_X8_putEight_3 (cs ro (d + 1)) ro Q v (nI (8 * k) + (-8)) mi' ml := fun h => by
          have e : tstep z (sgn v (8 * k)) = z := if_neg h
          rw [e] at hQ
          exact ih (by omega) z Z mi' T F hQ
        have put : (sgn v (8 * k) = 10 ∨ 32 ≤ sgn v (8 * k) ∧ sgn v (8 * k) ≤ 126) → z.1 < 1000 → ∃ (r3 : Int32) (mi1 : cM1) (ml2 : cM2), cs ro (d + 1) 82 [.int (nI (sgn v (8 * k)))] (ab_G (ab_ui mi' 3 z.1 (nI (sgn v (8 * k)))) ml) (some (.int r3)) (ab_G mi1 ml2) ∧ W_X8_putEight_3 (cs ro (d + 1)) ro Q v (nI (8 * k) + (-8)) (ab_ui (ab_ui mi1 4 z.1 (vp_nar .byte (r3).toInt8.toInt32)) 2 2 ((mi1 2 2) + 1)) ml2 := fun h1 h2 => by
          refine ⟨_, _, _, s_sortOf hc, ?_⟩
          have e : tstep z (sgn v (8 * k)) = (z.1 + 1, fun i => if i = z.1 then sgn v (8 * k) else z.2 i) := if_pos ⟨h1, h2⟩
          have e22 : ab_ui mi' 3 z.1 (nI (sgn v (8 * k))) 2 2 = nI z.1 := by simp [ui_app]; exact T.1
          rw [nar_y _ (srt_lt _), e22, nI_1]
          refine ih (by omega) (tstep z (sgn v (8 * k))) (Z.st _) _ ?_ (fun a b h => ?_) hQ
          · rw [e]
            refine ⟨by simp [ui_app], fun i hi => ?_⟩
            have hi : i < z.1 + 1 := hi
            show _ = nI (if i = z.1 then sgn v (8 * k) else z.2 i) ∧ _ = nI (srt (if i = z.1 then sgn v (8 * k) else z.2 i))
            simp only [ui_app]
            by_cases q : i = z.1
            · simp [q]
            · simp [q]; exact T.2 i (by omega)
          · rw [← F a b h]
            simp only [ui_app]
            have n3 : ¬ a = 3 := fun q => h (Or.inl q)
            have n4 : ¬ a = 4 := fun q => h (Or.inr (Or.inl q))
            by_cases q : a = 2
            · have : ¬ b = 2 := fun q2 => h (Or.inr (Or.inr ⟨q, q2⟩))
              simp [q, this]
            · simp [q, n3, n4]
        have nb : (sgn v (8 * k) = 10 ∨ 32 ≤ sgn v (8 * k) ∧ sgn v (8 * k) ≤ 126) → vp_nar .byte (nI (sgn v (8 * k))).toInt8.toInt32 = nI (sgn v (8 * k)) := fun h => nar_y _ (by omega)
        simp (disch := omega) only [T.1, nI_ltI, nI_eq, nI_clamp, nI_1, xl_0, xg_0, xe_0, xe_m1, nI_0, xl_1, xl_2, xl_3, xl_4, xl_5, xl_6, xl_7, xl_8, xl_9, xl_10, xl_12, xl_20, xl_30, xl_32, xl_40, xl_41, xl_42, xl_48, xl_57, xl_59, xl_64, xl_97, xl_100, xl_122, xl_126, xl_128, xl_1000, xl_9999, xg_1, xg_2, xg_3, xg_4, xg_5, xg_6, xg_7, xg_8, xg_9, xg_10, xg_12, xg_20, xg_30, xg_32, xg_40, xg_41, xg_42, xg_48, xg_57, xg_59, xg_64, xg_97, xg_100, xg_122, xg_126, xg_128, xg_1000, xg_9999, xe_1, xe_2, xe_3, xe_4, xe_5, xe_6, xe_7, xe_8, xe_9, xe_10, xe_12, xe_20, xe_30, xe_32, xe_40, xe_41, xe_42, xe_48, xe_57, xe_59, xe_64, xe_97, xe_100, xe_122, xe_126, xe_128, xe_1000, xe_9999, true_implies, false_implies, not_true_eq_false, not_false_eq_true, and_true, true_and, forall_const, imp_self, lc_eq, implies_true, vin, Bool.true_eq_false, Bool.false_eq_true, false_and, and_false, or_false, false_or, or_true, true_or]
        refine ⟨fun c1 => ⟨fun c2 => ?_, fun c2 => skip (fun q => c2 q.2)⟩, fun c1 => ⟨fun c2 => skip (fun q => by omega), fun c2 => ⟨fun c3 => skip (fun q => by omega), fun c3 => ⟨fun c4 => ?_, fun c4 => skip (fun q => c4 q.2)⟩⟩⟩⟩
        · obtain ⟨r, m1, m2, q1, q2⟩ := put (Or.inl c1) c2
          rw [nb (Or.inl c1)]
          exact ⟨in_of c2 (by decide), r, m1, m2, q1, in_of c2 (by decide), q2⟩
        · obtain ⟨r, m1, m2, q1, q2⟩ := put (Or.inr ⟨by omega, by omega⟩) c4
          rw [nb (Or.inr ⟨by omega, by omega⟩)]
          exact ⟨in_of c4 (by decide), r, m1, m2, q1, in_of c4 (by decide), q2⟩
    exact loop 8 (Nat.le_refl _) z Z mi T (fun _ _ _ => rfl) (fun mi'' h1 h2 => hQ _ _ ⟨rfl, h1, h2⟩)
  obtain ⟨mi', ml', h1, rfl, h2⟩ := key
  exact ⟨mi', h1, h2⟩
theorem s_mlay {z : tSt} (Z : tOK z) (T : mT z mi) (v : Int64) : ∃ mi', cS ro (d + 1) 146 [.ref 40, .long v] mi ml none mi' ml ∧ mT (eight v z 8) mi' ∧ ∀ k j, ¬ (k = 41 ∨ (k = 40 ∧ j = 2)) → mi' k j = mi k j := by
  have key : ∃ mi' ml', cS ro (d + 1) 146 [.ref 40, .long v] mi ml none mi' ml' ∧ (ml' = ml ∧ mT (eight v z 8) mi' ∧ ∀ k j, ¬ (k = 41 ∨ (k = 40 ∧ j = 2)) → mi' k j = mi k j) := by
    refine ab_ex_q rfl rfl (fun Q hQ => vc_X12_lay_0 _ mi ml ?_)
    have loop : ∀ k, k ≤ 8 → ∀ z, tOK z → ∀ mi', mT z mi' → (∀ k j, ¬ (k = 41 ∨ (k = 40 ∧ j = 2)) → mi' k j = mi k j) → (∀ mi'', mT (eight v z k) mi'' → (∀ k j, ¬ (k = 41 ∨ (k = 40 ∧ j = 2)) → mi'' k j = mi k j) → Q none (ab_G mi'' ml)) → W_X12_lay_3 (cs ro d) ro Q v (nI (8 * k) + (-8)) mi' ml := by
      intro k
      induction k with
      | zero =>
        intro _ z Z mi' T F hQ
        refine vc_X12_lay_3 _ _ mi' ml ?_
        have e : (nI (8 * 0) + (-8) < 0) = True := eq_true (by decide)
        rw [e]
        exact ⟨fun _ => hQ mi' T F, fun q => absurd trivial q⟩
      | succ k ih =>
        intro hk z Z mi' T F hQ
        refine vc_X12_lay_3 _ _ mi' ml ?_
        rw [n8m, sgn_s v (by omega)]
        have hc := sgn_lt v (8 * k)
        have he : eight v z (k + 1) = eight v (tstep z (sgn v (8 * k))) k := rfl
        rw [he] at hQ
        have z1 := Z.1
        have skip : ¬ ((sgn v (8 * k) = 10 ∨ 32 ≤ sgn v (8 * k) ∧ sgn v (8 * k) ≤ 126) ∧ z.1 < 1000) → W_X12_lay_3 (cs ro d) ro Q v (nI (8 * k) + (-8)) mi' ml := fun h => by
          have e : tstep z (sgn v (8 * k)) = z := if_neg h
          rw [e] at hQ
          exact ih (by omega) z Z mi' T F hQ
        have put : (sgn v (8 * k) = 10 ∨ 32 ≤ sgn v (8 * k) ∧ sgn v (8 * k) ≤ 126) → z.1 < 1000 → W_X12_lay_3 (cs ro d) ro Q v (nI (8 * k) + (-8)) (ab_ui (ab_ui mi' 41 z.1 (nI (sgn v (8 * k)))) 40 2 (nI (z.1 + 1))) ml := fun h1 h2 => by
          have e : tstep z (sgn v (8 * k)) = (z.1 + 1, fun i => if i = z.1 then sgn v (8 * k) else z.2 i) := if_pos ⟨h1, h2⟩
          refine ih (by omega) (tstep z (sgn v (8 * k))) (Z.st _) _ ?_ (fun a b h => ?_) hQ
          · rw [e]
            refine ⟨by simp [ui_app], fun i hi => ?_⟩
            have hi : i < z.1 + 1 := hi
            show _ = nI (if i = z.1 then sgn v (8 * k) else z.2 i)
            simp only [ui_app]
            by_cases q : i = z.1
            · simp [q]
            · simp [q]; exact T.2 i (by omega)
          · rw [← F a b h]
            simp only [ui_app]
            have n3 : ¬ a = 41 := fun q => h (Or.inl q)
            by_cases q : a = 40
            · have : ¬ b = 2 := fun q2 => h (Or.inr ⟨q, q2⟩)
              simp [q, this]
            · simp [q, n3]
        simp (disch := omega) only [T.1, nI_ltI, nI_eq, nI_clamp, nI_1, xl_0, xg_0, xe_0, xe_m1, nI_0, xl_1, xl_2, xl_3, xl_4, xl_5, xl_6, xl_7, xl_8, xl_9, xl_10, xl_12, xl_20, xl_30, xl_32, xl_40, xl_41, xl_42, xl_48, xl_57, xl_59, xl_64, xl_97, xl_100, xl_122, xl_126, xl_128, xl_1000, xl_9999, xg_1, xg_2, xg_3, xg_4, xg_5, xg_6, xg_7, xg_8, xg_9, xg_10, xg_12, xg_20, xg_30, xg_32, xg_40, xg_41, xg_42, xg_48, xg_57, xg_59, xg_64, xg_97, xg_100, xg_122, xg_126, xg_128, xg_1000, xg_9999, xe_1, xe_2, xe_3, xe_4, xe_5, xe_6, xe_7, xe_8, xe_9, xe_10, xe_12, xe_20, xe_30, xe_32, xe_40, xe_41, xe_42, xe_48, xe_57, xe_59, xe_64, xe_97, xe_100, xe_122, xe_126, xe_128, xe_1000, xe_9999, true_implies, false_implies, not_true_eq_false, not_false_eq_true, and_true, true_and, forall_const, imp_self, lc_eq, implies_true, vin, Bool.true_eq_false, Bool.false_eq_true, false_and, and_false, or_false, false_or, or_true, true_or]
        refine ⟨fun c1 => ⟨fun c2 => ?_, fun c2 => skip (fun q => c2 q.2)⟩, fun c1 => ⟨fun c2 => skip (fun q => by omega), fun c2 => ⟨fun c3 => skip (fun q => by omega), fun c3 => ⟨fun c4 => ?_, fun c4 => skip (fun q => c4 q.2)⟩⟩⟩⟩
        · exact ⟨in_of c2 (by decide), put (Or.inl c1) c2⟩
        · exact ⟨in_of c4 (by decide), put (Or.inr ⟨by omega, by omega⟩) c4⟩
    exact loop 8 (Nat.le_refl _) z Z mi T (fun _ _ _ => rfl) (fun mi'' h1 h2 => hQ _ _ ⟨rfl, h1, h2⟩)
  obtain ⟨mi', ml', h1, rfl, h2⟩ := key
  exact ⟨mi', h1, h2⟩
theorem op_feed (a b c : Int64) : OP ro 105 145 [.long a, .long b, .long c] := by
  intro mi ml R
  obtain ⟨O, OM, K⟩ := R
  obtain ⟨t1, t2, t3⟩ := O.t
  -- the tape as it stands
  have hz : ∃ z : tSt, tOK z ∧ cT z mi ∧ mT z mi ∧ z.1 = nT mi := by
    refine ⟨(nT mi, fun i => (mi 3 i).toNatClampNeg), ⟨t2, fun i hi => ?_⟩, ⟨t1, fun i hi => ?_⟩, ⟨OM.s2.trans t1, fun i hi => ?_⟩, rfl⟩
    · obtain ⟨q, q1, q2, q3⟩ := t3 i hi
      show (mi 3 i).toNatClampNeg = 10 ∨ 32 ≤ (mi 3 i).toNatClampNeg ∧ (mi 3 i).toNatClampNeg ≤ 126
      rw [q2, nI_clamp (by omega)]; exact q1
    · obtain ⟨q, q1, q2, q3⟩ := t3 i hi
      show mi 3 i = nI (mi 3 i).toNatClampNeg ∧ mi 4 i = nI (srt (mi 3 i).toNatClampNeg)
      rw [q2, nI_clamp (by omega)]; exact ⟨rfl, q3⟩
    · obtain ⟨q, q1, q2, q3⟩ := t3 i hi
      show mi 41 i = nI (mi 3 i).toNatClampNeg
      rw [OM.t i hi, q2, nI_clamp (by omega)]
  obtain ⟨z, Z, T, M, hzn⟩ := hz
  obtain ⟨mi1, s1, T1, F1⟩ := s_putEight (ro := ro) (d := 37) (ml := ml) Z T a
  obtain ⟨mi2, s2, T2, F2⟩ := s_putEight (ro := ro) (d := 37) (ml := ml) Z.e T1 b
  obtain ⟨mi3, s3, T3, F3⟩ := s_putEight (ro := ro) (d := 37) (ml := ml) Z.e.e T2 c
  have FC : ∀ k j, ¬ (k = 3 ∨ k = 4 ∨ (k = 2 ∧ j = 2)) → mi3 k j = mi k j := fun k j h => (F3 k j h).trans ((F2 k j h).trans (F1 k j h))
  have M0 : mT z (ab_ui mi3 40 0 0) := ⟨by simp [ui_app]; rw [FC 40 2 (by omega)]; exact M.1, fun i hi => by rw [ui_app, if_neg (by decide), FC 41 i (by omega)]; exact M.2 i hi⟩
  obtain ⟨mi4, s4, T4, F4⟩ := s_mlay (ro := ro) (d := 38) (ml := ml) Z M0 a
  obtain ⟨mi5, s5, T5, F5⟩ := s_mlay (ro := ro) (d := 38) (ml := ml) Z.e T4 b
  obtain ⟨mi6, s6, T6, F6⟩ := s_mlay (ro := ro) (d := 38) (ml := ml) Z.e.e T5 c
  have Z3 : tOK (eight c (eight b (eight a z 8) 8) 8) := Z.e.e.e
  generalize eight c (eight b (eight a z 8) 8) 8 = z3 at *
  have FM : ∀ k j, ¬ (k = 41 ∨ (k = 40 ∧ (j = 2 ∨ j = 0))) → mi6 k j = mi3 k j := fun k j h => by
    rw [F6 k j (fun q => h (by omega)), F5 k j (fun q => h (by omega)), F4 k j (fun q => h (by omega)), ui_app]
    by_cases e : k = 40
    · have : ¬ j = 0 := fun q => h (Or.inr ⟨e, Or.inr q⟩)
      rw [if_pos e, if_neg this]
    · rw [if_neg e]
  have FA : ∀ k j, ¬ (k = 3 ∨ k = 4 ∨ (k = 2 ∧ j = 2)) → ¬ (k = 41 ∨ (k = 40 ∧ (j = 2 ∨ j = 0))) → mi6 k j = mi k j := fun k j h1 h2 => (FM k j h2).trans (FC k j h1)
  refine ⟨nI z3.1, mi3, ml, mi6, ml, ab_sem_q rfl rfl (fun Q hQ => vc_X11_feed_0 _ _ _ mi ml ⟨_, _, s1, _, _, s2, _, _, s3, ?_⟩), ab_sem_q rfl rfl (fun Q hQ => vc_X12_feed_0 _ _ _ mi3 ml ⟨_, _, s4, _, _, s5, _, _, s6, ?_⟩), ?_⟩
  · rw [T3.1]; exact hQ
  · rw [T6.1]; exact hQ
  have e22 : mi6 2 2 = nI z3.1 := by rw [FM 2 2 (by omega)]; exact T3.1
  have eN : nT mi6 = z3.1 := by
    have := Z3.1
    unfold nT; rw [e22, nI_clamp (by omega)]
  -- all that lasts but the tape
  have L : ∀ k j, k < 40 → lsI k j = true → ¬ (k = 3 ∨ k = 4 ∨ (k = 2 ∧ j = 2)) → mi6 k j = mi k j := fun k j hk _ h => FA k j h (by omega)
  have c : ∀ k, ¬ k = 3 → ¬ k = 4 → ¬ k = 2 → ¬ k = 41 → ¬ k = 40 → mi6 k = mi k := fun k h1 h2 h3 h4 h5 => funext (fun j => FA k j (by omega) (by omega))
  have E : geq mi ml mi6 ml := ⟨c 1 (by decide) (by decide) (by decide) (by decide) (by decide), FA 9 3 (by omega) (by omega), FA 12 5 (by omega) (by omega), c 13 (by decide) (by decide) (by decide) (by decide) (by decide), c 14 (by decide) (by decide) (by decide) (by decide) (by decide), c 16 (by decide) (by decide) (by decide) (by decide) (by decide), c 17 (by decide) (by decide) (by decide) (by decide) (by decide), rfl, rfl, rfl⟩
  have cs := fun k (h : ¬ k = 3 ∧ ¬ k = 4 ∧ ¬ k = 2 ∧ ¬ k = 41 ∧ ¬ k = 40) => c k h.1 h.2.1 h.2.2.1 h.2.2.2.1 h.2.2.2.2
  have nCe : nC mi6 = nC mi := by unfold nC; rw [cs 18 (by decide)]
  have nRe : nR mi6 = nR mi := by unfold nR; rw [cs 18 (by decide)]
  refine ⟨?_, ?_, ?_⟩
  · have ew : okW mi6 = okW mi := by
      funext w; unfold okW
      rw [cs 13 (by decide), cs 14 (by decide), cs 15 (by decide), cs 16 (by decide), cs 17 (by decide), E.qnL]
    unfold okT
    rw [E.qnL, E.qnW, nCe, nRe, ew, E.2.1, E.2.2.1, E.1, cs 18 (by decide), cs 19 (by decide), cs 20 (by decide), cs 21 (by decide), cs 24 (by decide), cs 37 (by decide)]
    refine ⟨O.1, O.2.1, O.2.2.1, O.2.2.2.1, O.w, O.c, O.g, O.h, O.y, O.d, ?_⟩
    rw [eN]
    refine ⟨e22, Z3.1, fun i hi => ⟨z3.2 i, Z3.2 i hi, ?_, ?_⟩⟩
    · rw [FM 3 i (by omega)]; exact (T3.2 i hi).1
    · rw [FM 4 i (by omega)]; exact (T3.2 i hi).2
  · unfold okM
    rw [E.qnL, E.qnW, nCe, nRe, E.2.1, E.2.2.1, E.1, cs 13 (by decide), cs 14 (by decide), cs 15 (by decide), cs 16 (by decide), cs 17 (by decide), cs 18 (by decide), cs 19 (by decide), cs 20 (by decide), cs 21 (by decide), cs 24 (by decide), cs 37 (by decide), cs 46 (by decide), cs 52 (by decide), cs 53 (by decide), cs 54 (by decide), cs 57 (by decide), cs 58 (by decide), cs 59 (by decide), cs 60 (by decide), cs 61 (by decide), cs 78 (by decide), cs 81 (by decide), cs 82 (by decide), FA 40 12 (by omega) (by omega), FA 40 20 (by omega) (by omega), FA 40 30 (by omega) (by omega), FA 40 34 (by omega) (by omega), FA 40 35 (by omega) (by omega), FA 40 69 (by omega) (by omega)]
    refine ⟨⟨OM.s12, OM.s20, OM.s30, OM.s34, OM.s35, OM.s69, T6.1.trans e22.symm⟩, OM.l, OM.w, OM.n, OM.h, OM.g, OM.y, OM.c, ?_, OM.x⟩
    rw [eN]
    intro i hi
    rw [T6.2 i hi, FM 3 i (by omega)]
    exact (T3.2 i hi).1.symm
  · refine keepG K (FA 0 12 (by omega) (by omega)) E (fun k j q => FA k j ?_ ?_)
    · unfold gsI at q
      simp only [Bool.or_eq_true, Bool.and_eq_true, beqT] at q
      omega
    · unfold gsI at q
      simp only [Bool.or_eq_true, Bool.and_eq_true, beqT] at q
      omega
end FE
