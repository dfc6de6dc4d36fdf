/-! What reading leaves standing. -/
/-- all that reading writes, on both sides -/
def gWA (k j : Nat) : Bool := Nat.beq k 2 || Nat.beq k 5 || Nat.beq k 8 || Nat.beq k 42 || Nat.beq k 43 || Nat.beq k 49 || (Nat.beq k 40 && (Nat.beq j 0 || Nat.beq j 2 || Nat.beq j 3 || Nat.beq j 7 || Nat.beq j 8 || Nat.beq j 16))
def gWB (k j : Nat) : Bool := Nat.beq k 5 || Nat.beq k 6 || Nat.beq k 7 || Nat.beq k 44 || Nat.beq k 50 || Nat.beq k 51 || (Nat.beq k 40 && (Nat.beq j 10 || Nat.beq j 11))
section TP
variable {ro : ab_E} {d : Nat} {mi mi' : cM1} {ml ml' : cM2}
theorem keepG2 (R : mi 0 12 = 0 → gP mi ml mi ml ∧ kP mi ml ml) (h0 : mi' 0 12 = mi 0 12) (E : geq mi ml mi' ml') (hg : ∀ k j, gsI k j = true → mi' k j = mi k j) (h8 : ml' 28 = ml 28) (h9 : ml' 29 = ml 29) (h31 : ml' 31 = ml 31) (h32 : ml' 32 = ml 32) : mi' 0 12 = 0 → gP mi' ml' mi' ml' ∧ kP mi' ml' ml' := fun h => by
  rw [h0] at h
  obtain ⟨G, K⟩ := R h
  rw [E.qgP, E.qkP]
  have G1 : gP mi ml mi' ml := G.of hg (fun _ _ _ => rfl)
  refine ⟨?_, ?_⟩
  · unfold gP gF at G1 ⊢
    rw [h8, h9]; exact G1
  · unfold kP at K ⊢
    rw [h31, h32]; exact K
set_option maxHeartbeats 1000000 in
theorem Rel_tape (R : Rel mi ml) (F : fr gWA gWB mi ml mi' ml') (h2 : mi' 2 2 = 0) (h42 : mi' 40 2 = 0) : Rel mi' ml' := by
  obtain ⟨O, OM, K⟩ := R
  have c : ∀ k, (∀ j, gWA k j = false) → mi' k = mi k := fun k h => F.c h
  have cl : ∀ k, (∀ j, gWB k j = false) → ml' k = ml k := fun k h => F.cl h
  have E : geq mi ml mi' ml' := ⟨c 1 (fun _ => rfl), by rw [c 9 (fun _ => rfl)], by rw [c 12 (fun _ => rfl)], c 13 (fun _ => rfl), c 14 (fun _ => rfl), c 16 (fun _ => rfl), c 17 (fun _ => rfl), by rw [cl 9 (fun _ => rfl)], cl 10 (fun _ => rfl), cl 11 (fun _ => rfl)⟩
  have nCe : nC mi' = nC mi := by unfold nC; rw [c 18 (fun _ => rfl)]
  have nRe : nR mi' = nR mi := by unfold nR; rw [c 18 (fun _ => rfl)]
  have eN : nT mi' = 0 := by unfold nT; rw [h2]; rfl
  refine ⟨?_, ?_, keepG2 K (by rw [c 0 (fun _ => rfl)]) E (fun k j q => F.1 k j ?_) (cl 28 (fun _ => rfl)) (cl 29 (fun _ => rfl)) (cl 31 (fun _ => rfl)) (cl 32 (fun _ => rfl))⟩
  · have ew : okW mi' = okW mi := by
      funext w; unfold okW
      rw [c 13 (fun _ => rfl), c 14 (fun _ => rfl), c 15 (fun _ => rfl), c 16 (fun _ => rfl), c 17 (fun _ => rfl), E.qnL]
    unfold okT
    rw [E.qnL, E.qnW, nCe, nRe, ew, E.2.1, E.2.2.1, E.1, c 18 (fun _ => rfl), c 19 (fun _ => rfl), c 20 (fun _ => rfl), c 21 (fun _ => rfl), c 24 (fun _ => rfl), c 37 (fun _ => rfl)]
    refine ⟨O.1, O.2.1, O.2.2.1, O.2.2.2.1, O.w, O.c, O.g, O.h, O.y, O.d, ?_⟩
    rw [eN, h2]
    exact ⟨rfl, by decide, fun i hi => absurd hi (Nat.not_lt_zero i)⟩
  · unfold okM
    rw [E.qnL, E.qnW, nCe, nRe, eN, E.2.1, E.2.2.1, E.1, E.qmB, c 13 (fun _ => rfl), c 14 (fun _ => rfl), c 15 (fun _ => rfl), c 16 (fun _ => rfl), c 17 (fun _ => rfl), c 18 (fun _ => rfl), c 19 (fun _ => rfl), c 20 (fun _ => rfl), c 21 (fun _ => rfl), c 24 (fun _ => rfl), c 37 (fun _ => rfl), c 46 (fun _ => rfl), c 52 (fun _ => rfl), c 53 (fun _ => rfl), c 54 (fun _ => rfl), c 57 (fun _ => rfl), c 58 (fun _ => rfl), c 59 (fun _ => rfl), c 60 (fun _ => rfl), c 61 (fun _ => rfl), c 78 (fun _ => rfl), c 81 (fun _ => rfl), c 82 (fun _ => rfl), cl 10 (fun _ => rfl), cl 11 (fun _ => rfl), cl 22 (fun _ => rfl), cl 23 (fun _ => rfl), cl 45 (fun _ => rfl), cl 47 (fun _ => rfl), cl 48 (fun _ => rfl), cl 55 (fun _ => rfl), cl 56 (fun _ => rfl), cl 62 (fun _ => rfl), cl 63 (fun _ => rfl), F.1 40 12 rfl, F.1 40 20 rfl, F.1 40 30 rfl, F.1 40 34 rfl, F.1 40 35 rfl, F.1 40 69 rfl, h2, h42]
    exact ⟨⟨OM.s12, OM.s20, OM.s30, OM.s34, OM.s35, OM.s69, rfl⟩, OM.l, OM.w, OM.n, OM.h, OM.g, OM.y, OM.c, fun i hi => absurd hi (Nat.not_lt_zero i), OM.x⟩
  · unfold gsI at q; unfold gWA
    simp only [Bool.or_eq_true, Bool.and_eq_true, beqT] at q
    have : ¬ k = 2 ∧ ¬ k = 5 ∧ ¬ k = 8 ∧ ¬ k = 42 ∧ ¬ k = 43 ∧ ¬ k = 49 ∧ ¬ k = 40 := by omega
    simp only [Bool.or_eq_false_iff, Bool.and_eq_false_iff]
    have b : ∀ {a b : Nat}, ¬ a = b → Nat.beq a b = false := fun h => Bool.eq_false_iff.2 (fun q => h (beqT.1 q))
    exact ⟨⟨⟨⟨⟨⟨b this.1, b this.2.1⟩, b this.2.2.1⟩, b this.2.2.2.1⟩, b this.2.2.2.2.1⟩, b this.2.2.2.2.2.1⟩, Or.inl (b this.2.2.2.2.2.2)⟩
/-- the tape as it stands -/
theorem tape_of (O : okT mi) (OM : okM mi ml) : ∃ T : tSt, tOK T ∧ cT T mi ∧ mT T mi := by
  obtain ⟨t1, t2, t3⟩ := O.t
  refine ⟨(nT mi, fun i => (mi 3 i).toNatClampNeg), ⟨t2, fun i hi => ?_⟩, ⟨t1, fun i hi => ?_⟩, ⟨OM.s2.trans t1, fun i hi => ?_⟩⟩
  · obtain ⟨q, q1, q2, q3⟩ := t3 i hi
    show (mi 3 i).toNatClampNeg = 10 ∨ 32 ≤ (mi 3 i).toNatClampNeg ∧ (mi 3 i).toNatClampNeg ≤ 126
    rw [q2, nI_clamp (by omega)]; exact q1
  · obtain ⟨q, q1, q2, q3⟩ := t3 i hi
    show mi 3 i = nI (mi 3 i).toNatClampNeg ∧ mi 4 i = nI (srt (mi 3 i).toNatClampNeg)
    rw [q2, nI_clamp (by omega)]; exact ⟨rfl, q3⟩
  · obtain ⟨q, q1, q2, q3⟩ := t3 i hi
    show mi 41 i = nI (mi 3 i).toNatClampNeg
    rw [OM.t i hi, q2, nI_clamp (by omega)]
/-- the reference's reader at the start -/
theorem RM0 {T : tSt} (h : MT T mi ml) (e7 : mi 40 7 = 0) (e8 : mi 40 8 = 0) (hx : ∀ w, w < 22 → ml 45 w = wds.getD w 0) : RM T (0, 0) mi ml := by
  obtain ⟨N, h1, h2, h3, h4⟩ := h
  exact ⟨⟨N, 0, h1, h2, h3, h4, Nat.zero_le _, rfl, e7⟩, e8, (by decide : 0 < 2 ^ 20), hx⟩
end TP
