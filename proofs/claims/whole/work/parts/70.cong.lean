/-! What the groups hang on; the relation between two calls. -/
def geq (ti : cM1) (tl : cM2) (ti' : cM1) (tl' : cM2) : Prop := ti' 1 = ti 1 ∧ ti' 9 3 = ti 9 3 ∧ ti' 12 5 = ti 12 5 ∧ ti' 13 = ti 13 ∧ ti' 14 = ti 14 ∧ ti' 16 = ti 16 ∧ ti' 17 = ti 17 ∧ tl' 9 2 = tl 9 2 ∧ tl' 10 = tl 10 ∧ tl' 11 = tl 11
section CG
variable {ti ti' mi ml1 mi' : cM1} {tl tl' ml ml' : cM2}
theorem geq.qnL (E : geq ti tl ti' tl') : nL ti' = nL ti := by unfold nL; rw [E.2.1]
theorem geq.qnW (E : geq ti tl ti' tl') : nW ti' = nW ti := by unfold nW; rw [E.2.2.1]
theorem geq.seen (E : geq ti tl ti' tl') : cSeen ti' = cSeen ti := by unfold cSeen; rw [E.1]
theorem geq.qseenP (E : geq ti tl ti' tl') : seenP ti' = seenP ti := by funext w; unfold seenP; rw [E.seen, E.2.2.2.2.2.1, E.2.2.2.2.2.2.1]
theorem geq.qcutP (E : geq ti tl ti' tl') : cutP ti' = cutP ti := by funext w p; unfold cutP; rw [E.2.2.2.1, E.2.2.2.2.1]
theorem geq.qfilP (E : geq ti tl ti' tl') : filP ti' = filP ti := by funext w p; unfold filP; rw [E.2.2.2.1]
theorem geq.qLK (E : geq ti tl ti' tl') : LK ti' = LK ti := by funext K p; unfold LK; rw [E.qnL, E.qnW, E.qcutP, E.qfilP]
theorem geq.qmB (E : geq ti tl ti' tl') : mB tl' = mB tl := by funext p; unfold mB; rw [E.2.2.2.2.2.2.2.1]
theorem geq.f10 (E : geq ti tl ti' tl') : tl' 10 = tl 10 := E.2.2.2.2.2.2.2.2.1
theorem geq.f11 (E : geq ti tl ti' tl') : tl' 11 = tl 11 := E.2.2.2.2.2.2.2.2.2
theorem geq.qoA (E : geq ti tl ti' tl') : oA tl' = oA tl := by funext P; unfold oA; rw [E.f10, E.qmB]
theorem geq.qoB (E : geq ti tl ti' tl') : oB tl' = oB tl := by funext P; unfold oB; rw [E.f11, E.qmB]
theorem geq.qhM (E : geq ti tl ti' tl') : hM tl' = hM tl := by funext P N; unfold hM; rw [E.f10, E.f11, E.qmB]
theorem geq.qmS (E : geq ti tl ti' tl') : mS tl' = mS tl := by funext P N; unfold mS; rw [E.qoA, E.qoB, E.qhM]
theorem geq.qvn (E : geq ti tl ti' tl') : vn tl' = vn tl := by funext P a b p; unfold vn; rw [E.f10, E.f11, E.qmB]
theorem geq.qcQ (E : geq ti tl ti' tl') : cQ tl' = cQ tl := by funext P; unfold cQ; rw [E.qoA, E.qoB, E.qvn]
theorem geq.qsameP (E : geq ti tl ti' tl') : sameP ti' tl' = sameP ti tl := by funext v w; unfold sameP; rw [E.2.2.2.1, E.2.2.2.2.1, E.qmS, E.qLK]
theorem geq.qalP (E : geq ti tl ti' tl') : alP tl' = alP tl := by funext v w; unfold alP; rw [E.qmB, E.f10, E.f11]
theorem geq.qtouP (E : geq ti tl ti' tl') : touP ti' tl' = touP ti tl := by funext v w; unfold touP; rw [E.2.2.2.1, E.2.2.2.2.1, E.qalP]
theorem geq.qldr (E : geq ti tl ti' tl') : ∀ n, ldr ti' tl' n = ldr ti tl n
  | 0 => rfl
  | n + 1 => by rw [ldr_s, ldr_s, E.qldr n, E.qseenP, E.qsameP]
theorem geq.qnG (E : geq ti tl ti' tl') : nG ti' tl' = nG ti tl := by unfold nG; rw [E.qldr, E.qnW]
theorem geq.qled (E : geq ti tl ti' tl') : led ti' tl' = led ti tl := by funext g; unfold led; rw [E.qldr, E.qnW]
theorem geq.qofG (E : geq ti tl ti' tl') : ofG ti' tl' = ofG ti tl := by funext w; unfold ofG gix; rw [E.qldr, E.qseenP, E.qsameP]
theorem geq.qgK (E : geq ti tl ti' tl') : gK ti' tl' = gK ti tl := by funext S w; unfold gK; rw [E.qnG, E.qled]
theorem geq.qlawS (E : geq ti tl ti' tl') : lawS ti' tl' = lawS ti tl := by funext S; unfold lawS; rw [E.qLK, E.qgK]
theorem geq.qntS (E : geq ti tl ti' tl') : ntS ti' tl' = ntS ti tl := by funext S; unfold ntS; rw [E.qnG, E.qtouP, E.qled]
theorem geq.qgoeP (E : geq ti tl ti' tl') : goeP ti' tl' = goeP ti tl := by funext S; unfold goeP; rw [E.qntS, E.qcQ, E.qlawS]
theorem geq.qgF (E : geq ti tl ti' tl') : gF ti' = gF ti := by funext l a b; unfold gF; rw [E.qcutP, E.qfilP]
theorem geq.qgP (E : geq ti tl ti' tl') : gP ti' tl' = gP ti tl := by funext a b; unfold gP; rw [E.qgF, E.qldr, E.qnW, E.qofG, E.qnG, E.qtouP, E.qled]
theorem geq.qkP (E : geq ti tl ti' tl') : kP ti' tl' = kP ti tl := by funext b; unfold kP; rw [E.qgoeP]
/-- the class's lasting cells are the same -/
def leq (ti : cM1) (tl : cM2) (ti' : cM1) (tl' : cM2) : Prop := (∀ k j, k < 40 → lsI k j = true → ti' k j = ti k j) ∧ (∀ k j, k < 40 → lsL k j = true → tl' k j = tl k j)
theorem leq.c (E : leq ti tl ti' tl') {k : Nat} (hk : k < 40) (h : ∀ j, lsI k j = true) : ti' k = ti k := funext (fun j => E.1 k j hk (h j))
theorem leq.cl (E : leq ti tl ti' tl') {k : Nat} (hk : k < 40) (h : ∀ j, lsL k j = true) : tl' k = tl k := funext (fun j => E.2 k j hk (h j))
theorem leq.g (E : leq ti tl ti' tl') : geq ti tl ti' tl' := ⟨E.c (by decide) (fun _ => rfl), E.1 9 3 (by decide) rfl, E.1 12 5 (by decide) rfl, E.c (by decide) (fun _ => rfl), E.c (by decide) (fun _ => rfl), E.c (by decide) (fun _ => rfl), E.c (by decide) (fun _ => rfl), E.2 9 2 (by decide) rfl, E.cl (by decide) (fun _ => rfl), E.cl (by decide) (fun _ => rfl)⟩
theorem leq.qnC (E : leq ti tl ti' tl') : nC ti' = nC ti := by unfold nC; rw [E.1 18 2 (by decide) rfl]
theorem leq.qnR (E : leq ti tl ti' tl') : nR ti' = nR ti := by unfold nR; rw [E.1 18 6 (by decide) rfl]
theorem leq.qnT (E : leq ti tl ti' tl') : nT ti' = nT ti := by unfold nT; rw [E.1 2 2 (by decide) rfl]
theorem leq.qokT (E : leq ti tl ti' tl') (O : okT ti) : okT ti' := by
  have G := E.g
  have e15 : ti' 15 = ti 15 := E.c (by decide) (fun _ => rfl)
  have ew : okW ti' = okW ti := by
    funext w
    unfold okW
    rw [G.2.2.2.1, G.2.2.2.2.1, e15, G.2.2.2.2.2.1, G.2.2.2.2.2.2.1, G.qnL]
  unfold okT
  rw [G.qnL, G.qnW, E.qnC, E.qnR, E.qnT, ew, G.2.1, G.2.2.1, G.1, E.1 18 2 (by decide) rfl, E.1 18 6 (by decide) rfl, E.1 2 2 (by decide) rfl, E.c (k := 19) (by decide) (fun _ => rfl), E.c (k := 20) (by decide) (fun _ => rfl), E.c (k := 21) (by decide) (fun _ => rfl), E.c (k := 24) (by decide) (fun _ => rfl), E.c (k := 37) (by decide) (fun _ => rfl), E.c (k := 3) (by decide) (fun _ => rfl), E.c (k := 4) (by decide) (fun _ => rfl)]
  exact O
/-- the reference's lasting cells are the same -/
def meq (ti : cM1) (tl : cM2) (ti' : cM1) (tl' : cM2) : Prop := (∀ k j, lmI k j = true → ti' k j = ti k j) ∧ (∀ k j, lmL k j = true → tl' k j = tl k j)
theorem meq.c (E : meq ti tl ti' tl') {k : Nat} (h : ∀ j, lmI k j = true) : ti' k = ti k := funext (fun j => E.1 k j (h j))
theorem meq.cl (E : meq ti tl ti' tl') {k : Nat} (h : ∀ j, lmL k j = true) : tl' k = tl k := funext (fun j => E.2 k j (h j))
theorem leq.qokM (E : leq ti tl ti' tl') (D : meq ti tl ti' tl') (O : okM ti tl) : okM ti' tl' := by
  have G := E.g
  unfold okM
  rw [G.qnL, G.qnW, E.qnC, E.qnR, E.qnT, G.qmB, G.f10, G.f11, G.2.1, G.2.2.1, G.1, G.2.2.2.1, G.2.2.2.2.1, G.2.2.2.2.2.1, G.2.2.2.2.2.2.1, E.1 18 2 (by decide) rfl, E.1 18 6 (by decide) rfl, E.1 2 2 (by decide) rfl, E.c (k := 15) (by decide) (fun _ => rfl), E.c (k := 19) (by decide) (fun _ => rfl), E.c (k := 20) (by decide) (fun _ => rfl), E.c (k := 21) (by decide) (fun _ => rfl), E.c (k := 24) (by decide) (fun _ => rfl), E.c (k := 37) (by decide) (fun _ => rfl), E.c (k := 3) (by decide) (fun _ => rfl), E.cl (k := 22) (by decide) (fun _ => rfl), E.cl (k := 23) (by decide) (fun _ => rfl),
    D.1 40 12 rfl, D.1 40 20 rfl, D.1 40 30 rfl, D.1 40 34 rfl, D.1 40 35 rfl, D.1 40 69 rfl, D.1 40 2 rfl, D.c (k := 46) (fun _ => rfl), D.c (k := 52) (fun _ => rfl), D.c (k := 53) (fun _ => rfl), D.c (k := 54) (fun _ => rfl), D.c (k := 57) (fun _ => rfl), D.c (k := 58) (fun _ => rfl), D.c (k := 59) (fun _ => rfl), D.c (k := 60) (fun _ => rfl), D.c (k := 61) (fun _ => rfl), D.c (k := 78) (fun _ => rfl), D.c (k := 81) (fun _ => rfl), D.c (k := 82) (fun _ => rfl), D.c (k := 41) (fun _ => rfl), D.cl (k := 47) (fun _ => rfl), D.cl (k := 48) (fun _ => rfl), D.cl (k := 55) (fun _ => rfl), D.cl (k := 56) (fun _ => rfl), D.cl (k := 62) (fun _ => rfl), D.cl (k := 63) (fun _ => rfl), D.cl (k := 45) (fun _ => rfl)]
  exact O
/-- between two calls -/
def Rel (mi : cM1) (ml : cM2) : Prop := okT mi ∧ okM mi ml ∧ (mi 0 12 = 0 → gP mi ml mi ml ∧ kP mi ml ml)
/-- the class's side behind a call that changes nothing that lasts -/
def rP (ti : cM1) (tl : cM2) (mi : cM1) (ml : cM2) : Prop := eqP ti tl mi ml ∧ (mi 0 12 = 0 → gP ti tl mi ml ∧ kP ti tl ml)
theorem cP.r (C : cP ti tl mi ml) : rP ti tl mi ml := ⟨C.1, fun _ => C.2⟩
theorem rP.op (R : rP ti tl mi ml) (a b : Int64) : rP ti tl mi (op ml a b) := ⟨R.1.op a b, fun h => ⟨((R.2 h).1.ul _ rfl).ul _ rfl, ((R.2 h).2.ul _ rfl).ul _ rfl⟩⟩
theorem Rel.r (R : Rel mi ml) : rP mi ml mi ml := ⟨eqP.rf mi ml, R.2.2⟩
theorem lm_40 {k j : Nat} (h : lmI k j = true) : 40 ≤ k := by
  cases q : Nat.ble 40 k with
  | true => exact Nat.le_of_ble_eq_true q
  | false =>
    exfalso
    have hk : k < 40 := by
      apply Nat.lt_of_not_le
      intro h2
      rw [Nat.ble_eq_true_of_le h2] at q; cases q
    unfold lmI at h
    simp only [Bool.or_eq_true, Bool.and_eq_true, beqT, Nat.ble_eq] at h
    omega
theorem lmL_40 {k j : Nat} (h : lmL k j = true) : 40 ≤ k := by
  unfold lmL at h
  simp only [Bool.or_eq_true, beqT] at h
  omega
theorem ls_40 {k : Nat} (j : Nat) (h : 40 ≤ k) : lsI k j = true ∧ lsL k j = true := by
  have : Nat.ble 40 k = true := Nat.ble_eq_true_of_le h
  unfold lsI lsL
  rw [this]
  simp
/-- the reference begins where the class has ended -/
theorem rP.m (R : rP ti tl mi ml) : eqM ti tl mi ml mi ml := ⟨fun k j h => R.1.1 k j (ls_40 j (lm_40 h)).1, fun k j h => R.1.2 k j (ls_40 j (lmL_40 h)).2, fun _ _ => rfl, fun _ _ => rfl⟩
/-- a question leaves the relation as it was -/
theorem Rel_q {mi1 mi2 : cM1} {ml1 ml2 : cM2} (O : okT ti) (OM : okM ti tl) (R : rP ti tl mi1 ml1) (E : eqM ti tl mi1 ml1 mi2 ml2) : Rel mi2 ml2 := by
  have L : leq ti tl mi2 ml2 := ⟨fun k j hk h => by rw [E.2.2.1 k hk]; exact R.1.1 k j h, fun k j hk h => by rw [E.2.2.2 k hk]; exact R.1.2 k j h⟩
  refine ⟨L.qokT O, L.qokM ⟨E.1, E.2.1⟩ OM, fun h => ?_⟩
  rw [E.2.2.1 0 (by decide)] at h
  obtain ⟨G, K⟩ := R.2 h
  rw [L.g.qgP, L.g.qkP]
  refine ⟨G.of (fun k j q => ?_) (fun k j q => ?_), K.of (E.2.2.2 31 (by decide)) (E.2.2.2 32 (by decide))⟩
  · rw [E.2.2.1 k]
    unfold gsI at q
    simp only [Bool.or_eq_true, Bool.and_eq_true, beqT] at q
    omega
  · rw [E.2.2.2 k]
    unfold gsL at q
    simp only [Bool.or_eq_true, beqT] at q
    omega
end CG
