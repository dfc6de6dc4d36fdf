/-! A wish: what follows the reading, the class's side. -/
section WC
variable {ro : ab_E} {L : Nat} {xs : Nat → Int32} {d : Nat} {mi : cM1} {ml : cM2} {T : tSt} {z : Nat × Nat} {lo hi : Int64} {b : Bool}
/-- whatever the flag -/
theorem s_putv {k : Nat} (hk : k < 42) (lo hi : Int64) (v : Int32) : ∃ ml', cS ro (d + 1) 46 [.ref 9, .int (nI k), .long lo, .long hi, .int v] mi ml none mi ml' ∧ PT k lo hi (!decide (v = 0)) ml ml' := by
  have key : ∃ mi' ml', cS ro (d + 1) 46 [.ref 9, .int (nI k), .long lo, .long hi, .int v] mi ml none mi' ml' ∧ (mi' = mi ∧ PT k lo hi (!decide (v = 0)) ml ml') := by
    refine ab_ex_q rfl rfl (fun Q hQ => vc_X6_put_0 _ _ _ _ mi ml ?_)
    rw [xl_0 (by omega), xl_42 (by omega), nI_clamp (by omega)]
    refine ⟨fun q => q.elim, fun _ => ⟨fun _ => ⟨in_of hk (by decide), in_of hk (by decide), fun c => hQ _ _ ⟨rfl, PT_of lo hi _ _ (fun p => ?_)⟩, fun c => hQ _ _ ⟨rfl, PT_of lo hi _ _ (fun p => ?_)⟩⟩, fun q => absurd hk q⟩⟩
    · rw [decide_eq_true c]
      by_cases hp : p < 64
      · rw [b6_and, b6_not _ hp, b6_bit (by omega)]
        by_cases e : p = k
        · rw [if_pos e, decide_eq_true e]; simp
        · rw [if_neg e, decide_eq_false e]; unfold mB; simp
      · rw [b6_ge _ (by omega), if_neg (by omega)]; unfold mB; rw [b6_ge _ (by omega)]
    · rw [decide_eq_false c, b6_orbit _ (by omega)]
      by_cases e : p = k
      · rw [if_pos e, decide_eq_true e]; simp
      · rw [if_neg e, decide_eq_false e, Bool.or_false]; rfl
  obtain ⟨mi', ml', h1, rfl, h2⟩ := key
  exact ⟨ml', h1, h2⟩
theorem s_add {k : Nat} (hk : k < 30) (e : mi 12 5 = nI k) (v t x y : Int32) : cS ro (d + 1) 96 [.ref 12, .int v, .int t, .int x, .int y] mi ml none (ab_ui (ab_ui (ab_ui (ab_ui (ab_ui (ab_ui mi 13 k v) 14 k t) 15 k x) 16 k y) 17 k (-1)) 12 5 (nI (k + 1))) ml := by
  refine ab_sem_q rfl rfl (fun Q hQ => vc_X10_add_0 v t x y mi ml ?_)
  have en : nI k + 1 = nI (k + 1) := nI_1 k
  have i30 : vp_in (nI k) 30 := in_of hk (by decide)
  rw [e, nI_clamp (by omega), en, xl_30 (by omega)]
  exact ⟨fun _ => ⟨i30, i30, i30, i30, i30, hQ⟩, fun q => absurd hk q⟩
end WC
