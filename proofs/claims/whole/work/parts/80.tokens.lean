/-! Tokens. -/
def kd (T : tSt) (p : Nat) : Nat := if p < T.1 then srt (T.2 p) else 0
def skp (T : tSt) : Nat → Nat → Nat
  | 0, p => p
  | m + 1, p => if kd T p = 1 then skp T m (p + 1) else p
def rnf (T : tSt) (k : Nat) : Nat → Nat → Nat
  | 0, p => p
  | m + 1, p => if kd T p = k then rnf T k m (p + 1) else p
def tS (T : tSt) (p : Nat) : Nat := skp T 1001 p
def rn (T : tSt) (k p : Nat) : Nat := rnf T k 1001 p
/-- the end, and the kind, of the token at p -/
def tE (T : tSt) (p : Nat) : Nat := if kd T (tS T p) = 2 ∨ kd T (tS T p) = 3 then rn T (kd T (tS T p)) (tS T p) else if tS T p < T.1 then tS T p + 1 else T.1
def tK (T : tSt) (p : Nat) : Nat := if (kd T (tS T p) = 2 ∧ 8 < tE T p - tS T p) ∨ (kd T (tS T p) = 3 ∧ 3 < tE T p - tS T p) then 7 else kd T (tS T p)
theorem srt_ge (c : Nat) : 1 ≤ srt c ∧ srt c ≤ 7 := by unfold srt; (repeat' split) <;> omega
theorem kd_0 {T : tSt} {p : Nat} : kd T p = 0 ↔ T.1 ≤ p := by
  unfold kd
  by_cases h : p < T.1
  · rw [if_pos h]
    have := srt_ge (T.2 p)
    omega
  · rw [if_neg h]; omega
theorem kd_lt {T : tSt} {p k : Nat} (h : kd T p = k) (hk : 0 < k) : p < T.1 := by
  by_cases q : p < T.1
  · exact q
  · have : kd T p = 0 := kd_0.2 (by omega)
    omega
theorem kd_7 (T : tSt) (p : Nat) : kd T p ≤ 7 := by
  unfold kd
  by_cases h : p < T.1
  · rw [if_pos h]; exact (srt_ge _).2
  · rw [if_neg h]; omega
theorem rnf_eq {T : tSt} {k : Nat} (hk : 0 < k) : ∀ (m m' p : Nat), T.1 < p + m → T.1 < p + m' → rnf T k m p = rnf T k m' p
  | 0, 0, _, _, _ => rfl
  | 0, m' + 1, p, h, _ => by
    have : ¬ kd T p = k := fun q => by have := kd_lt q hk; omega
    show p = if kd T p = k then _ else p
    rw [if_neg this]
  | m + 1, 0, p, _, h => by
    have : ¬ kd T p = k := fun q => by have := kd_lt q hk; omega
    show (if kd T p = k then _ else p) = p
    rw [if_neg this]
  | m + 1, m' + 1, p, h1, h2 => by
    show (if kd T p = k then rnf T k m (p + 1) else p) = (if kd T p = k then rnf T k m' (p + 1) else p)
    rw [rnf_eq hk m m' (p + 1) (by omega) (by omega)]
theorem skp_rnf (T : tSt) : ∀ (m p : Nat), skp T m p = rnf T 1 m p
  | 0, _ => rfl
  | m + 1, p => by
    show (if kd T p = 1 then skp T m (p + 1) else p) = (if kd T p = 1 then rnf T 1 m (p + 1) else p)
    rw [skp_rnf T m]
section TK
variable {ro : ab_E} {d : Nat} {ti mi vi : cM1} {tl ml vl : cM2} {T : tSt}
theorem rn_y (Z : tOK T) {k p : Nat} (hk : 0 < k) (h : kd T p = k) : rn T k p = rn T k (p + 1) := by
  have := Z.1
  unfold rn
  rw [rnf_eq hk 1001 1002 p (by omega) (by omega), rnf_eq hk 1001 1001 (p + 1) (by omega) (by omega)]
  show (if kd T p = k then rnf T k 1001 (p + 1) else p) = _
  rw [if_pos h]
theorem rn_n {k p : Nat} (h : ¬ kd T p = k) : rn T k p = p := by
  show (if kd T p = k then rnf T k 1000 (p + 1) else p) = p
  rw [if_neg h]
theorem tS_rn (T : tSt) (p : Nat) : tS T p = rn T 1 p := skp_rnf T 1001 p
theorem rnf_ge (T : tSt) (k : Nat) : ∀ m p, p ≤ rnf T k m p
  | 0, p => Nat.le_refl p
  | m + 1, p => by
    show p ≤ if kd T p = k then rnf T k m (p + 1) else p
    split
    · exact Nat.le_trans (Nat.le_succ p) (rnf_ge T k m (p + 1))
    · exact Nat.le_refl p
theorem rnf_le (T : tSt) {k : Nat} (hk : 0 < k) : ∀ m p, p ≤ T.1 → rnf T k m p ≤ T.1
  | 0, p, h => h
  | m + 1, p, h => by
    show (if kd T p = k then rnf T k m (p + 1) else p) ≤ T.1
    by_cases q : kd T p = k
    · rw [if_pos q]; exact rnf_le T hk m (p + 1) (kd_lt q hk)
    · rw [if_neg q]; exact h
theorem rnf_end {k : Nat} (hk : 0 < k) : ∀ m p, T.1 < p + m → ¬ kd T (rnf T k m p) = k
  | 0, p, h, q => by
    have q : kd T p = k := q
    have := kd_lt q hk; omega
  | m + 1, p, h, q => by
    have e : rnf T k (m + 1) p = if kd T p = k then rnf T k m (p + 1) else p := rfl
    by_cases c : kd T p = k
    · rw [e, if_pos c] at q; exact rnf_end hk m (p + 1) (by omega) q
    · rw [e, if_neg c] at q; exact c q
theorem tS_ge (T : tSt) (p : Nat) : p ≤ tS T p := by rw [tS_rn]; exact rnf_ge T 1 1001 p
theorem tS_le (T : tSt) {p : Nat} (h : p ≤ T.1) : tS T p ≤ T.1 := by rw [tS_rn]; exact rnf_le T (by decide) 1001 p h
theorem tS_n1 (Z : tOK T) (p : Nat) : ¬ kd T (tS T p) = 1 := by
  have := Z.1
  rw [tS_rn]; exact rnf_end (by decide) 1001 p (by omega)
theorem tE_le (T : tSt) {p : Nat} (h : p ≤ T.1) : tE T p ≤ T.1 := by
  have hs := tS_le T h
  unfold tE
  split
  · rename_i q; exact rnf_le T (by omega) 1001 _ hs
  · split <;> omega
theorem tE_gt (Z : tOK T) {p : Nat} (h : tS T p < T.1) : tS T p < tE T p := by
  unfold tE
  by_cases q : kd T (tS T p) = 2 ∨ kd T (tS T p) = 3
  · rw [if_pos q, rn_y Z (by omega) rfl]
    exact rnf_ge T _ 1001 _
  · rw [if_neg q, if_pos h]; omega
/-- the current token is the one at p -/
def TS (T : tSt) (p : Nat) (mi : cM1) : Prop := mi 2 4 = nI (tS T p) ∧ mi 2 3 = nI (tK T p) ∧ mi 2 5 = nI (tE T p)
def tkI (k j : Nat) : Bool := Nat.beq k 2 && (Nat.beq j 3 || Nat.beq j 4 || Nat.beq j 5)
theorem cT_kd (Z : tOK T) (C : cT T mi) {p : Nat} (h : p < T.1) : mi 4 p = nI (kd T p) := by
  rw [(C.2 p h).2]
  unfold kd; rw [if_pos h]
theorem cT.of {mi' : cM1} (C : cT T mi) (h2 : mi' 2 2 = mi 2 2) (h3 : mi' 3 = mi 3) (h4 : mi' 4 = mi 4) : cT T mi' := ⟨h2.trans C.1, fun i hi => by rw [h3, h4]; exact C.2 i hi⟩
set_option maxHeartbeats 2000000 in
theorem s_step (Z : tOK T) (C : cT T mi) {p : Nat} (hp : p ≤ T.1) (e5 : mi 2 5 = nI p) : ∃ mi', cS ro (d + 1) 85 [.ref 2] mi ml none mi' ml ∧ TS T p mi' ∧ ∀ k j, tkI k j = false → mi' k j = mi k j := by
  have hn := Z.1
  have key : ∃ mi' ml', cS ro (d + 1) 85 [.ref 2] mi ml none mi' ml' ∧ (ml' = ml ∧ TS T p mi' ∧ ∀ k j, tkI k j = false → mi' k j = mi k j) := by
    refine ab_ex_q rfl rfl (fun Q hQ => vc_X8_step_0 mi ml ?_)
    rw [e5]
    have hs := tS_le T hp
    have hs0 := tS_n1 Z p
    have hk7 := kd_7 T (tS T p)
    have fin : ∀ v5 v3 : Int32, v5 = nI (tE T p) → v3 = nI (tK T p) → ∀ mi' : cM1, mi' 2 4 = nI (tS T p) → mi' 2 3 = v3 → mi' 2 5 = v5 → (∀ k j, tkI k j = false → mi' k j = mi k j) → Q none (ab_G mi' ml) := fun v5 v3 h5 h3 mi' q4 q3 q5 F => hQ _ _ ⟨rfl, ⟨q4, q3.trans h3, q5.trans h5⟩, F⟩
    have fr2 : ∀ (a b c : Int32) k j, tkI k j = false → ab_ui (ab_ui (ab_ui (ab_ui mi 2 4 a) 2 3 b) 2 5 c) 2 3 7 k j = mi k j ∧ ab_ui (ab_ui (ab_ui mi 2 4 a) 2 3 b) 2 5 c k j = mi k j := fun a b c k j h => by
      rw [ui_else (P := fun k j => !tkI k j) (k := 2) (j := 3) rfl (by rw [h]; rfl), ui_else (P := fun k j => !tkI k j) (k := 2) (j := 5) rfl (by rw [h]; rfl), ui_else (P := fun k j => !tkI k j) (k := 2) (j := 3) rfl (by rw [h]; rfl), ui_else (P := fun k j => !tkI k j) (k := 2) (j := 4) rfl (by rw [h]; rfl)]
      exact ⟨rfl, rfl⟩
    -- behind the blanks
    have after : W_X8_step_5 (cs ro d) ro Q (nI (tS T p)) mi ml := by
      refine vc_X8_step_5 _ mi ml ?_
      generalize hst : tS T p = s at *
      -- the run
      have runs : (kd T s = 2 ∨ kd T s = 3) → ∀ m q, q ≤ T.1 → s ≤ q → T.1 < q + m → rn T (kd T s) s = rn T (kd T s) q → W_X8_step_78 (cs ro d) ro Q (nI q) 1 (ab_ui (ab_ui mi 2 4 (nI s)) 2 3 (nI (kd T s))) ml := by
        intro hk m
        induction m with
        | zero => intro q h1 h2 h3; omega
        | succ m ih =>
          intro q h1 h2 h3 h4
          refine vc_X8_step_78 _ _ _ ml ?_
          have e22 : ab_ui (ab_ui mi 2 4 (nI s)) 2 3 (nI (kd T s)) 2 2 = nI T.1 := by simp [ui_app]; exact C.1
          have e23 : ab_ui (ab_ui mi 2 4 (nI s)) 2 3 (nI (kd T s)) 2 3 = nI (kd T s) := by simp [ui_app]
          have e24 : ab_ui (ab_ui mi 2 4 (nI s)) 2 3 (nI (kd T s)) 2 4 = nI s := by simp [ui_app]
          have e4 : ab_ui (ab_ui mi 2 4 (nI s)) 2 3 (nI (kd T s)) 4 = mi 4 := by funext j; simp [ui_app]
          have e10 : ((1 : Int32) = 0) = False := eq_false (by decide)
          have eE : ¬ kd T q = kd T s → tE T p = q := fun hne => by
            unfold tE
            rw [hst, if_pos hk, h4, rn_n hne]
          have done : ¬ kd T q = kd T s → (kd T s = 2 → (8 < q - s → Q none (ab_G (ab_ui (ab_ui (ab_ui (ab_ui mi 2 4 (nI s)) 2 3 (nI (kd T s))) 2 5 (nI q)) 2 3 7) ml)) ∧ (¬ 8 < q - s → (kd T s = 3 → (3 < q - s → Q none (ab_G (ab_ui (ab_ui (ab_ui (ab_ui mi 2 4 (nI s)) 2 3 (nI (kd T s))) 2 5 (nI q)) 2 3 7) ml)) ∧ (¬ 3 < q - s → Q none (ab_G (ab_ui (ab_ui (ab_ui mi 2 4 (nI s)) 2 3 (nI (kd T s))) 2 5 (nI q)) ml))) ∧ (¬ kd T s = 3 → Q none (ab_G (ab_ui (ab_ui (ab_ui mi 2 4 (nI s)) 2 3 (nI (kd T s))) 2 5 (nI q)) ml)))) ∧ (¬ kd T s = 2 → (kd T s = 3 → (3 < q - s → Q none (ab_G (ab_ui (ab_ui (ab_ui (ab_ui mi 2 4 (nI s)) 2 3 (nI (kd T s))) 2 5 (nI q)) 2 3 7) ml)) ∧ (¬ 3 < q - s → Q none (ab_G (ab_ui (ab_ui (ab_ui mi 2 4 (nI s)) 2 3 (nI (kd T s))) 2 5 (nI q)) ml))) ∧ (¬ kd T s = 3 → Q none (ab_G (ab_ui (ab_ui (ab_ui mi 2 4 (nI s)) 2 3 (nI (kd T s))) 2 5 (nI q)) ml))) := fun hne => by
            have E := eE hne
            have y7 : ((kd T s = 2 ∧ 8 < q - s) ∨ (kd T s = 3 ∧ 3 < q - s)) → Q none (ab_G (ab_ui (ab_ui (ab_ui (ab_ui mi 2 4 (nI s)) 2 3 (nI (kd T s))) 2 5 (nI q)) 2 3 7) ml) := fun h => fin (nI q) 7 (by rw [E]) (by unfold tK; rw [hst, E, if_pos h]; rfl) _ (by simp [ui_app]) (by simp [ui_app]) (by simp [ui_app]) (fun k j h => (fr2 _ _ _ k j h).1)
            have n7 : ¬ ((kd T s = 2 ∧ 8 < q - s) ∨ (kd T s = 3 ∧ 3 < q - s)) → Q none (ab_G (ab_ui (ab_ui (ab_ui mi 2 4 (nI s)) 2 3 (nI (kd T s))) 2 5 (nI q)) ml) := fun h => fin (nI q) (nI (kd T s)) (by rw [E]) (by unfold tK; rw [hst, E, if_neg h]) _ (by simp [ui_app]) (by simp [ui_app]) (by simp [ui_app]) (fun k j h => (fr2 _ _ _ k j h).2)
            refine ⟨fun k2 => ⟨fun l8 => y7 (Or.inl ⟨k2, l8⟩), fun l8 => ⟨fun k3 => ⟨fun l3 => y7 (Or.inr ⟨k3, l3⟩), fun l3 => n7 (by omega)⟩, fun k3 => n7 (by omega)⟩⟩, fun k2 => ⟨fun k3 => ⟨fun l3 => y7 (Or.inr ⟨k3, l3⟩), fun l3 => n7 (by omega)⟩, fun k3 => n7 (by omega)⟩⟩
          have em : nI q - nI s = nI (q - s) := nI_m h2
          by_cases hq : q < T.1
          · have e4q : mi 4 q = nI (kd T q) := cT_kd Z C hq
            have hkq := kd_7 T q
            simp (disch := omega) only [e22, e23, e24, e4, hq, e10, e4q, em, nI_ltI, nI_eq, nI_clamp, nI_1, xl_0, xg_0, xe_0, xe_m1, nI_0, xl_1, xl_2, xl_3, xl_4, xl_5, xl_6, xl_7, xl_8, xl_9, xl_10, xl_12, xl_20, xl_30, xl_32, xl_40, xl_41, xl_42, xl_48, xl_57, xl_59, xl_64, xl_97, xl_100, xl_122, xl_126, xl_128, xl_1000, xl_9999, xg_1, xg_2, xg_3, xg_4, xg_5, xg_6, xg_7, xg_8, xg_9, xg_10, xg_12, xg_20, xg_30, xg_32, xg_40, xg_41, xg_42, xg_48, xg_57, xg_59, xg_64, xg_97, xg_100, xg_122, xg_126, xg_128, xg_1000, xg_9999, xe_1, xe_2, xe_3, xe_4, xe_5, xe_6, xe_7, xe_8, xe_9, xe_10, xe_12, xe_20, xe_30, xe_32, xe_40, xe_41, xe_42, xe_48, xe_57, xe_59, xe_64, xe_97, xe_100, xe_122, xe_126, xe_128, xe_1000, xe_9999, true_implies, false_implies, not_true_eq_false, not_false_eq_true, and_true, true_and, forall_const, imp_self, lc_eq, implies_true, vin, Bool.true_eq_false, Bool.false_eq_true, false_and, and_false, or_false, false_or, or_true, true_or]
            refine ⟨fun c => ih (q + 1) (by omega) (by omega) (by omega) (by rw [h4, rn_y Z (by omega) c]), fun c => ?_⟩
            exact done c
          · have hne : ¬ kd T q = kd T s := fun h => by have := kd_lt h (by omega); omega
            simp (disch := omega) only [e22, e23, e24, hq, e10, em, nI_ltI, nI_eq, nI_clamp, nI_1, xl_0, xg_0, xe_0, xe_m1, nI_0, xl_1, xl_2, xl_3, xl_4, xl_5, xl_6, xl_7, xl_8, xl_9, xl_10, xl_12, xl_20, xl_30, xl_32, xl_40, xl_41, xl_42, xl_48, xl_57, xl_59, xl_64, xl_97, xl_100, xl_122, xl_126, xl_128, xl_1000, xl_9999, xg_1, xg_2, xg_3, xg_4, xg_5, xg_6, xg_7, xg_8, xg_9, xg_10, xg_12, xg_20, xg_30, xg_32, xg_40, xg_41, xg_42, xg_48, xg_57, xg_59, xg_64, xg_97, xg_100, xg_122, xg_126, xg_128, xg_1000, xg_9999, xe_1, xe_2, xe_3, xe_4, xe_5, xe_6, xe_7, xe_8, xe_9, xe_10, xe_12, xe_20, xe_30, xe_32, xe_40, xe_41, xe_42, xe_48, xe_57, xe_59, xe_64, xe_97, xe_100, xe_122, xe_126, xe_128, xe_1000, xe_9999, true_implies, false_implies, not_true_eq_false, not_false_eq_true, and_true, true_and, forall_const, imp_self, lc_eq, implies_true, vin, Bool.true_eq_false, Bool.false_eq_true, false_and, and_false, or_false, false_or, or_true, true_or]
            exact done hne
      -- no run
      have single : ¬ (kd T s = 2 ∨ kd T s = 3) → ∀ v : Int32, v = nI (kd T s) → W_X8_step_78 (cs ro d) ro Q (nI s) 0 (ab_ui (ab_ui mi 2 4 (nI s)) 2 3 v) ml := by
        intro hk v hv
        subst hv
        refine vc_X8_step_78 _ _ _ ml ?_
        have e22 : ab_ui (ab_ui mi 2 4 (nI s)) 2 3 (nI (kd T s)) 2 2 = nI T.1 := by simp [ui_app]; exact C.1
        have e23 : ab_ui (ab_ui mi 2 4 (nI s)) 2 3 (nI (kd T s)) 2 3 = nI (kd T s) := by simp [ui_app]
        have k2 : ¬ kd T s = 2 := fun h => hk (Or.inl h)
        have k3 : ¬ kd T s = 3 := fun h => hk (Or.inr h)
        have em : (if nI T.1 < nI (s + 1) then nI T.1 else nI (s + 1)) = nI (tE T p) := by
          unfold tE
          rw [hst, if_neg hk]
          by_cases q : s < T.1
          · rw [if_pos q, if_neg (by rw [nI_ltI (by omega) (by omega)]; omega)]
          · rw [if_neg q, if_pos (by rw [nI_ltI (by omega) (by omega)]; omega)]
        have f := fin (nI (tE T p)) (nI (kd T s)) rfl (by unfold tK; rw [hst, if_neg (by omega)]) (ab_ui (ab_ui (ab_ui mi 2 4 (nI s)) 2 3 (nI (kd T s))) 2 5 (nI (tE T p))) (by simp [ui_app]) (by simp [ui_app]) (by simp [ui_app]) (fun k j h => (fr2 _ _ _ k j h).2)
        have e00 : ((0 : Int32) = 0) = True := eq_true rfl
        rw [e22, e23, nI_1, em]
        simp (disch := omega) only [e00, k2, k3, nI_ltI, nI_eq, nI_clamp, nI_1, xl_0, xg_0, xe_0, xe_m1, nI_0, xl_1, xl_2, xl_3, xl_4, xl_5, xl_6, xl_7, xl_8, xl_9, xl_10, xl_12, xl_20, xl_30, xl_32, xl_40, xl_41, xl_42, xl_48, xl_57, xl_59, xl_64, xl_97, xl_100, xl_122, xl_126, xl_128, xl_1000, xl_9999, xg_1, xg_2, xg_3, xg_4, xg_5, xg_6, xg_7, xg_8, xg_9, xg_10, xg_12, xg_20, xg_30, xg_32, xg_40, xg_41, xg_42, xg_48, xg_57, xg_59, xg_64, xg_97, xg_100, xg_122, xg_126, xg_128, xg_1000, xg_9999, xe_1, xe_2, xe_3, xe_4, xe_5, xe_6, xe_7, xe_8, xe_9, xe_10, xe_12, xe_20, xe_30, xe_32, xe_40, xe_41, xe_42, xe_48, xe_57, xe_59, xe_64, xe_97, xe_100, xe_122, xe_126, xe_128, xe_1000, xe_9999, true_implies, false_implies, not_true_eq_false, not_false_eq_true, and_true, true_and, forall_const, imp_self, lc_eq, implies_true, vin, Bool.true_eq_false, Bool.false_eq_true, false_and, and_false, or_false, false_or, or_true, true_or]
        exact ⟨fun _ => f, fun _ => f⟩
      by_cases hq : s < T.1
      · have e4s : mi 4 s = nI (kd T s) := cT_kd Z C hq
        simp (disch := omega) only [C.1, hq, e4s, hs0, nI_ltI, nI_eq, nI_clamp, nI_1, xl_0, xg_0, xe_0, xe_m1, nI_0, xl_1, xl_2, xl_3, xl_4, xl_5, xl_6, xl_7, xl_8, xl_9, xl_10, xl_12, xl_20, xl_30, xl_32, xl_40, xl_41, xl_42, xl_48, xl_57, xl_59, xl_64, xl_97, xl_100, xl_122, xl_126, xl_128, xl_1000, xl_9999, xg_1, xg_2, xg_3, xg_4, xg_5, xg_6, xg_7, xg_8, xg_9, xg_10, xg_12, xg_20, xg_30, xg_32, xg_40, xg_41, xg_42, xg_48, xg_57, xg_59, xg_64, xg_97, xg_100, xg_122, xg_126, xg_128, xg_1000, xg_9999, xe_1, xe_2, xe_3, xe_4, xe_5, xe_6, xe_7, xe_8, xe_9, xe_10, xe_12, xe_20, xe_30, xe_32, xe_40, xe_41, xe_42, xe_48, xe_57, xe_59, xe_64, xe_97, xe_100, xe_122, xe_126, xe_128, xe_1000, xe_9999, true_implies, false_implies, not_true_eq_false, not_false_eq_true, and_true, true_and, forall_const, imp_self, lc_eq, implies_true, vin, Bool.true_eq_false, Bool.false_eq_true, false_and, and_false, or_false, false_or, or_true, true_or]
        refine ⟨fun c => ?_, fun c => ⟨fun c2 => ?_, fun c2 => ?_⟩⟩
        · exact runs (Or.inl c) 1001 s hs (Nat.le_refl s) (by omega) rfl
        · exact runs (Or.inr c2) 1001 s hs (Nat.le_refl s) (by omega) rfl
        · exact single (fun h => h.elim c c2) _ rfl
      · have k0 : kd T s = 0 := kd_0.2 (by omega)
        simp (disch := omega) only [C.1, hq, nI_ltI, nI_eq, nI_clamp, nI_1, xl_0, xg_0, xe_0, xe_m1, nI_0, xl_1, xl_2, xl_3, xl_4, xl_5, xl_6, xl_7, xl_8, xl_9, xl_10, xl_12, xl_20, xl_30, xl_32, xl_40, xl_41, xl_42, xl_48, xl_57, xl_59, xl_64, xl_97, xl_100, xl_122, xl_126, xl_128, xl_1000, xl_9999, xg_1, xg_2, xg_3, xg_4, xg_5, xg_6, xg_7, xg_8, xg_9, xg_10, xg_12, xg_20, xg_30, xg_32, xg_40, xg_41, xg_42, xg_48, xg_57, xg_59, xg_64, xg_97, xg_100, xg_122, xg_126, xg_128, xg_1000, xg_9999, xe_1, xe_2, xe_3, xe_4, xe_5, xe_6, xe_7, xe_8, xe_9, xe_10, xe_12, xe_20, xe_30, xe_32, xe_40, xe_41, xe_42, xe_48, xe_57, xe_59, xe_64, xe_97, xe_100, xe_122, xe_126, xe_128, xe_1000, xe_9999, true_implies, false_implies, not_true_eq_false, not_false_eq_true, and_true, true_and, forall_const, imp_self, lc_eq, implies_true, vin, Bool.true_eq_false, Bool.false_eq_true, false_and, and_false, or_false, false_or, or_true, true_or]
        exact single (by omega) 0 (by rw [k0]; rfl)
    -- over the blanks
    have skip : ∀ m q, q ≤ T.1 → T.1 < q + m → tS T q = tS T p → W_X8_step_5 (cs ro d) ro Q (nI q) mi ml := by
      intro m
      induction m with
      | zero => intro q h1 h2; omega
      | succ m ih =>
        intro q h1 h2 h3
        by_cases c : kd T q = 1
        · have hq := kd_lt c (by decide)
          have e4q : mi 4 q = 1 := by rw [cT_kd Z C hq, c]; rfl
          have e11 : ((1 : Int32) = 1) = True := eq_true rfl
          refine vc_X8_step_5 _ mi ml ?_
          simp (disch := omega) only [C.1, hq, e4q, e11, nI_ltI, nI_eq, nI_clamp, nI_1, xl_0, xg_0, xe_0, xe_m1, nI_0, xl_1, xl_2, xl_3, xl_4, xl_5, xl_6, xl_7, xl_8, xl_9, xl_10, xl_12, xl_20, xl_30, xl_32, xl_40, xl_41, xl_42, xl_48, xl_57, xl_59, xl_64, xl_97, xl_100, xl_122, xl_126, xl_128, xl_1000, xl_9999, xg_1, xg_2, xg_3, xg_4, xg_5, xg_6, xg_7, xg_8, xg_9, xg_10, xg_12, xg_20, xg_30, xg_32, xg_40, xg_41, xg_42, xg_48, xg_57, xg_59, xg_64, xg_97, xg_100, xg_122, xg_126, xg_128, xg_1000, xg_9999, xe_1, xe_2, xe_3, xe_4, xe_5, xe_6, xe_7, xe_8, xe_9, xe_10, xe_12, xe_20, xe_30, xe_32, xe_40, xe_41, xe_42, xe_48, xe_57, xe_59, xe_64, xe_97, xe_100, xe_122, xe_126, xe_128, xe_1000, xe_9999, true_implies, false_implies, not_true_eq_false, not_false_eq_true, and_true, true_and, forall_const, imp_self, lc_eq, implies_true, vin, Bool.true_eq_false, Bool.false_eq_true, false_and, and_false, or_false, false_or, or_true, true_or]
          refine ih (q + 1) (by omega) (by omega) ?_
          rw [← h3, tS_rn, tS_rn, ← rn_y Z (by decide) c]
        · have : tS T p = q := by rw [← h3, tS_rn, rn_n c]
          rw [← this]; exact after
    exact skip 1001 p hp (by omega) rfl
  obtain ⟨mi', ml', h1, rfl, h2⟩ := key
  exact ⟨mi', h1, h2⟩
end TK
