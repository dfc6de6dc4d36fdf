/-! A wish's end, the reference's side. -/
def KI (x v t : Int32) (k : Nat) (mi : cM1) : cM1 := ab_ui (ab_ui (ab_ui (ab_ui (ab_ui (ab_ui (ab_ui mi 52 k v) 53 k t) 54 k (vp_nar .boolean (mi 49 0))) 57 k x) 58 k (mi 40 34)) 59 k (-1)) 40 20 (nI (k + 1))
def KL (k : Nat) (ml : cM2) : cM2 := ab_ul (ab_ul ml 55 k (ml 50 0)) 56 k (ml 51 0)
def wE (ro : ab_E) (Q : Option Value → ab_S → Prop) (x v t : Int32) (mi : cM1) (ml : cM2) : Prop :=
  ((mi 40 8 = 0) → (vp_in (mi 40 7) 1002 ∧ ((mi 42 (mi 40 7).toNatClampNeg = 0 → ((mi 40 8 = 0 → ∃ (a : cM1) (b : cM2), cS ro 39 177 [.ref 40, .int x, .int v, .int t] mi ml none a b ∧ Q (some (.int (a 40 8))) (ab_G a b)) ∧ (¬ mi 40 8 = 0 → Q (some (.int (mi 40 8))) (ab_G mi ml)))) ∧
    (¬ mi 42 (mi 40 7).toNatClampNeg = 0 → ∃ (a : cM1) (b : cM2), cS ro 39 153 [.ref 40, .int 1] mi ml none a b ∧ ((a 40 8 = 0 → ∃ (c : cM1) (e : cM2), cS ro 39 177 [.ref 40, .int x, .int v, .int t] a b none c e ∧ Q (some (.int (c 40 8))) (ab_G c e)) ∧ (¬ a 40 8 = 0 → Q (some (.int (a 40 8))) (ab_G a b))))))) ∧
  (¬ mi 40 8 = 0 → ((mi 40 8 = 0 → ∃ (a : cM1) (b : cM2), cS ro 39 177 [.ref 40, .int x, .int v, .int t] mi ml none a b ∧ Q (some (.int (a 40 8))) (ab_G a b)) ∧ (¬ mi 40 8 = 0 → Q (some (.int (mi 40 8))) (ab_G mi ml))))
section WE
variable {ro : ab_E} {d : Nat} {mi mi' : cM1} {ml ml' : cM2} {T : tSt} {z : Nat × Nat}
theorem m_keeps {x v t : Int32} {k : Nat} (hk : k < 30) (hN : mi 40 20 = nI k) : cS ro (d + 1) 177 [.ref 40, .int x, .int v, .int t] mi ml none (KI x v t k mi) (KL k ml) := by
  refine ab_sem_q rfl rfl (fun Q hQ => vc_X12_keeps_0 x v t mi ml ?_)
  have en : nI k + 1 = nI (k + 1) := nI_1 k
  have i30 : vp_in (nI k) 30 := in_of hk (by decide)
  rw [hN, nI_clamp (by omega), en]
  exact ⟨i30, i30, i30, i30, i30, i30, i30, i30, hQ⟩
theorem m_wE {Q : Option Value → ab_S → Prop} {x v t : Int32} {k : Nat} (Z : tOK T) (R : RM T z mi ml) (hk : k < 30) (hN : mi 40 20 = nI k)
    (hQ0 : ¬ (fiz T z).1 = 0 → ∀ m', fr mrA mrB mi ml m' ml → Q (some (.int (nI (fiz T z).1))) (ab_G m' ml))
    (hQ1 : (fiz T z).1 = 0 → Q (some (.int (nI (fiz T z).1))) (ab_G (KI x v t k mi) (KL k ml))) : wE ro Q x v t mi ml := by
  obtain ⟨j, K⟩ := R.tk
  have hj := K.2.1
  have hz := R.2.2.1
  have hl := srO_l (tK T z.2)
  unfold wE
  have e8 : ∀ x v t, KI x v t k mi 40 8 = nI z.1 := fun x v t => by unfold KI; simp [ui_app]; exact R.2.1
  rw [K.1, nI_clamp (by omega), K.2.2.2.1, R.2.1, xe_0 (by omega), xe_0 (by omega), srO_0]
  refine ⟨fun c0 => ⟨in_of (by omega) (by decide), fun cK => ⟨fun _ => ⟨_, _, m_keeps hk hN, ?_⟩, fun q => absurd c0 q⟩, fun cK => ?_⟩, fun c0 => ⟨fun q => absurd q c0, fun _ => ?_⟩⟩
  · have ez : fiz T z = z := by unfold fiz; rw [if_pos cK]
    rw [ez] at hQ1
    rw [e8]; exact hQ1 c0
  · obtain ⟨a4, g1, g2, g3⟩ := m_wrong (ro := ro) (d := 38) (v := 1) Z (k := 1) rfl (by decide) R
    have ez : fiz T z = flz T 1 z := by unfold fiz; rw [if_neg cK]
    have nz := flz_n (T := T) (z := z) 1 (by decide)
    have hb := g2.2.2.1
    refine ⟨a4, ml, g1, ?_⟩
    rw [ez] at hQ0
    rw [g2.2.1, xe_0 (by omega)]
    exact ⟨fun q => absurd q nz, fun _ => hQ0 nz a4 g3⟩
  · have ez : fiz T z = z := by
      unfold fiz flz
      by_cases cK : tK T z.2 = 0
      · rw [if_pos cK]
      · rw [if_neg cK, if_neg c0]
    rw [ez] at hQ0
    exact hQ0 c0 mi fr.rf
end WE
