/-! A wish: what follows the reading, the class's side. -/
section WC
variable {ro : ab_E} {L : Nat} {xs : Nat → Int32} {d : Nat} {mi : cM1} {ml : cM2} {T : tSt} {z : Nat × Nat} {lo hi : Int64} {b : Bool}
/-- whatever the flag -/
theorem s_putv {k : Nat} (hk : k < 42) (lo hi : Int64) (v : Int32) : ∃ ml', cS ro (d + 1) 46 [.ref 9, .int (nI k), .long lo, .long hi, .int v] mi ml none mi ml' ∧ PT k lo hi (!decide (v = 0)) ml ml' := by
  have key : ∃ mi' ml', cS ro (d + 1) 46 [.ref 9, .int (nI k), .long lo, .long hi, .int v] mi ml none mi' ml' ∧ (mi' = mi ∧ PT k lo hi (!decide (v = 0)) ml ml') := by
    refine ab_ex_q rfl rfl (fun Q hQ => vc_X6_put_0 _ _ _ _ mi ml ?_)
    rw [xl_0 (by omega), xl_42 (by omega), nI_clamp (by omega)]
    refine ⟨fun q => q.elim, fun _ => ⟨fun _ => ⟨in_of hk (by decide), in_of hk (by decide), fun c => hQ _ _ ⟨rfl, PT_of lo hi _ _ (fun p => ?_)⟩, fun c => hQ _ _ ⟨rfl, PT_of lo hi _ _ (fun p => ?_)⟩⟩, fun q => absurd hk q⟩⟩
    · rw [decide_eq_true c]
      by_cases hp : p < 64
      · rw [b6_and, b6_not _ hp, b6_bit (by omega)]
        by_cases e : p = k
        · rw [if_pos e, decide_eq_true e]; simp
        · rw [if_neg e, decide_eq_false e]; unfold mB; simp
      · rw [b6_ge _ (by omega), if_neg (by omega)]; unfold mB; rw [b6_ge _ (by omega)]
    · rw [decide_eq_false c, b6_orbit _ (by omega)]
      by_cases e : p = k
      · rw [if_pos e, decide_eq_true e]; simp
      · rw [if_neg e, decide_eq_false e, Bool.or_false]; rfl
  obtain ⟨mi', ml', h1, rfl, h2⟩ := key
  exact ⟨ml', h1, h2⟩
theorem s_add {k : Nat} (hk : k < 30) (e : mi 12 5 = nI k) (v t x y : Int32) : cS ro (d + 1) 96 [.ref 12, .int v, .int t, .int x, .int y] mi ml none (ab_ui (ab_ui (ab_ui (ab_ui (ab_ui (ab_ui mi 13 k v) 14 k t) 15 k x) 16 k y) 17 k (-1)) 12 5 (nI (k + 1))) ml := by
  refine ab_sem_q rfl rfl (fun Q hQ => vc_X10_add_0 v t x y mi ml ?_)
  have en : nI k + 1 = nI (k + 1) := nI_1 k
  have i30 : vp_in (nI k) 30 := in_of hk (by decide)
  rw [e, nI_clamp (by omega), en, xl_30 (by omega)]
  exact ⟨fun _ => ⟨i30, i30, i30, i30, i30, hQ⟩, fun q => absurd hk q⟩
theorem wr_lt (Z : tOK T) (C : cT T mi) {n : Nat} (hn : n < 100) (g : WR T n z b lo hi) : z.1 < 2 ^ 20 := by
  obtain ⟨m0, l0, s0, R0, F0, _⟩ := s_begin (L := 0) (xs := fun _ => 0) (d := 28) (ml := fun _ _ => 0) Z C
  obtain ⟨m1, s1, R1, F1⟩ := s_st (ro := ab_ro 0 (fun _ => 0)) (d := 30) (ml := l0) Z R0
  obtain ⟨m2, s2, R2, F2⟩ := s_tn (ro := ab_ro 0 (fun _ => 0)) (d := 29) (ml := l0) (l := n) (v := nI n) Z rfl hn R1
  have h := vb_lt T 0
  by_cases c4 : vb T 0 = 4
  · rw [g.1 c4]
    obtain ⟨m', s', R', F'⟩ := s_fail (ro := ab_ro 0 (fun _ => 0)) (d := 30) (ml := l0) (v := 1) Z (k := 1) rfl (by decide) R0
    exact R'.2.2.2.2
  · by_cases c3 : vb T 0 = 3
    · obtain ⟨z1, ln, rfl⟩ := g.2.1 c3
      obtain ⟨m', l', s', P⟩ := s_line (L := 0) (xs := fun _ => 0) (d := 0) (ml := l0) Z ln R1
      obtain ⟨m4, s4, R4, F4⟩ := s_fin (L := 0) (xs := fun _ => 0) (d := 29) (ml := l') Z P.1
      exact R4.2.2.2.2
    · by_cases c2 : vb T 0 = 2
      · obtain ⟨z1, ln, rfl⟩ := g.2.2.1 c2
        obtain ⟨m3, s3, R3, F3⟩ := s_tw2 (L := 0) (xs := fun _ => 0) (d := 25) (ml := l0) Z R2
        obtain ⟨m', l', s', P⟩ := s_line (L := 0) (xs := fun _ => 0) (d := 0) (ml := l0) Z ln R3
        obtain ⟨m4, s4, R4, F4⟩ := s_fin (L := 0) (xs := fun _ => 0) (d := 29) (ml := l') Z P.1
        exact R4.2.2.2.2
      · rw [g.2.2.2 (by omega)]
        obtain ⟨m3, s3, R3, F3⟩ := s_ts (ro := ab_ro 0 (fun _ => 0)) (d := 29) (ml := l0) (k := 6) (v := 6) Z rfl (by decide) R2
        obtain ⟨m4, s4, R4, F4⟩ := s_fin (L := 0) (xs := fun _ => 0) (d := 29) (ml := l0) Z R3
        exact R4.2.2.2.2
end WC
