/-! Walking the abstract machine: a stretch at a time, each by computation. -/
section ABG
variable {call : Nat → List Value → ab_S → Option Value → ab_S → Prop} {ro : ab_E} {mc ms : Nat} {pg : Nat → Option ab_I} {Q : Option Value → ab_S → Prop}
/-- from the frame f the method comes to its end with Q -/
def ab_W (call : Nat → List Value → ab_S → Option Value → ab_S → Prop) (ro : ab_E) (mc ms : Nat) (pg : Nat → Option ab_I) (Q : Option Value → ab_S → Prop) (f : ab_F) : Prop := ∃ n, ab_run call ro mc ms pg (fun _ => false) Q (fun _ => False) n f
/-- k steps -/
def ab_go (ro : ab_E) (mc ms : Nat) (pg : Nat → Option ab_I) : Nat → ab_F → Option (Prop × ab_N)
  | 0, f => some (True, .inl f)
  | n + 1, f => match pg f.1 with
    | none => none
    | some en => match ab_step ro mc ms en f with
      | none => none
      | some (P, .inl f') => match ab_go ro mc ms pg n f' with
        | none => none
        | some (P', nx) => some (P ∧ P', nx)
      | some (P, .inr x) => some (P, .inr x)
theorem ab_go_ok : ∀ (k : Nat) (f : ab_F) (P : Prop) (nx : ab_N), ab_go ro mc ms pg k f = some (P, nx) → P →
    (match nx with
      | .inl f' => ab_W call ro mc ms pg Q f'
      | .inr (.inl (r, g)) => Q r g
      | .inr (.inr (c, as, pc, ll, st, c1, s1, g)) => ∃ r g', call c as g r g' ∧ ab_W call ro mc ms pg Q (pc, ll, r.toList ++ st, c1, s1, g')) → ab_W call ro mc ms pg Q f := by
  intro k
  induction k with
  | zero =>
    intro f P nx h hP hn
    cases h
    exact hn
  | succ k ih =>
    intro f P nx h hP hn
    unfold ab_go at h
    cases hpg : pg f.1 with
    | none => rw [hpg] at h; cases h
    | some en =>
      rw [hpg] at h
      dsimp only at h
      cases hst : ab_step ro mc ms en f with
      | none => rw [hst] at h; cases h
      | some x =>
        obtain ⟨P1, nx1⟩ := x
        rw [hst] at h
        rcases nx1 with f1 | x1
        · dsimp only at h
          cases hg : ab_go ro mc ms pg k f1 with
          | none => rw [hg] at h; cases h
          | some y =>
            obtain ⟨P2, nx2⟩ := y
            rw [hg] at h
            cases h
            obtain ⟨n, hn2⟩ := ih f1 _ _ hg hP.2 hn
            refine ⟨n + 1, ?_⟩
            unfold ab_run
            rw [hpg]
            dsimp only
            rw [hst]
            exact ⟨hP.1, hn2⟩
        · cases h
          rcases x1 with ⟨r, g⟩ | ⟨c, as, pc, ll, st, c1, s1, g⟩
          · refine ⟨1, ?_⟩
            unfold ab_run
            rw [hpg]
            dsimp only
            rw [hst]
            exact ⟨hP, hn⟩
          · obtain ⟨r, g', h1, n, h2⟩ := hn
            refine ⟨n + 1, ?_⟩
            unfold ab_run
            rw [hpg]
            dsimp only
            rw [hst]
            exact ⟨hP, r, g', h1, h2⟩
theorem ab_wk (k : Nat) {f f' : ab_F} {P : Prop} (h : ab_go ro mc ms pg k f = some (P, .inl f')) (hP : P) (kk : ab_W call ro mc ms pg Q f') : ab_W call ro mc ms pg Q f := ab_go_ok k f P _ h hP kk
theorem ab_wr (k : Nat) {f : ab_F} {P : Prop} {r : Option Value} {g : ab_S} (h : ab_go ro mc ms pg k f = some (P, .inr (.inl (r, g)))) (hP : P) (kk : Q r g) : ab_W call ro mc ms pg Q f := ab_go_ok k f P _ h hP kk
theorem ab_wc (k : Nat) {f : ab_F} {P : Prop} {c : Nat} {as : List Value} {pc : Nat} {ll : ab_L} {st : List Value} {c1 s1 : Nat} {g : ab_S} (h : ab_go ro mc ms pg k f = some (P, .inr (.inr (c, as, pc, ll, st, c1, s1, g)))) (hP : P) {r : Option Value} {g' : ab_S} (hc : call c as g r g')
    (kk : ab_W call ro mc ms pg Q (pc, ll, r.toList ++ st, c1, s1, g')) : ab_W call ro mc ms pg Q f := ab_go_ok k f P _ h hP ⟨r, g', hc, kk⟩
theorem ab_wi {c : Prop} [Decidable c] {a b : Nat} {ll : ab_L} {st : List Value} {c1 s1 : Nat} {g : ab_S} (h1 : c → ab_W call ro mc ms pg Q (a, ll, st, c1, s1, g)) (h2 : ¬ c → ab_W call ro mc ms pg Q (b, ll, st, c1, s1, g)) : ab_W call ro mc ms pg Q (if c then a else b, ll, st, c1, s1, g) := by
  by_cases h : c
  · rw [if_pos h]; exact h1 h
  · rw [if_neg h]; exact h2 h
theorem ab_wit {c : Prop} [Decidable c] {a b : Nat} {ll : ab_L} {st : List Value} {c1 s1 : Nat} {g : ab_S} (hc : c) (h : ab_W call ro mc ms pg Q (a, ll, st, c1, s1, g)) : ab_W call ro mc ms pg Q (if c then a else b, ll, st, c1, s1, g) := by
  rw [if_pos hc]; exact h
theorem ab_wif {c : Prop} [Decidable c] {a b : Nat} {ll : ab_L} {st : List Value} {c1 s1 : Nat} {g : ab_S} (hc : ¬ c) (h : ab_W call ro mc ms pg Q (b, ll, st, c1, s1, g)) : ab_W call ro mc ms pg Q (if c then a else b, ll, st, c1, s1, g) := by
  rw [if_neg hc]; exact h
/-- an end with Q is an end with some answer -/
theorem ab_W_ex {f : ab_F} (h : ab_W call ro mc ms pg Q f) : ∃ r g, Q r g ∧ ab_W call ro mc ms pg (fun r' g' => r' = r ∧ g' = g) f := by
  obtain ⟨n, h⟩ := h
  induction n generalizing f with
  | zero => exact h.elim
  | succ n ih =>
    unfold ab_run at h
    dsimp only at h
    cases hpg : pg f.1 with
    | none => rw [hpg] at h; exact h.elim
    | some en =>
      rw [hpg] at h
      dsimp only at h
      cases hst : ab_step ro mc ms en f with
      | none => rw [hst] at h; exact h.elim
      | some x =>
        obtain ⟨P1, nx1⟩ := x
        rw [hst] at h
        rcases nx1 with f1 | ⟨r, g⟩ | ⟨c, as, pc, ll, st, c1, s1, g⟩
        · obtain ⟨r, g, hq, n2, h2⟩ := ih h.2
          refine ⟨r, g, hq, n2 + 1, ?_⟩
          unfold ab_run
          rw [hpg]
          dsimp only
          rw [hst]
          exact ⟨h.1, h2⟩
        · refine ⟨r, g, h.2, 1, ?_⟩
          unfold ab_run
          rw [hpg]
          dsimp only
          rw [hst]
          exact ⟨h.1, rfl, rfl⟩
        · obtain ⟨hP, r1, g1, h1, h2⟩ := h
          obtain ⟨r, g2, hq, n2, h3⟩ := ih h2
          refine ⟨r, g2, hq, n2 + 1, ?_⟩
          unfold ab_run
          rw [hpg]
          dsimp only
          rw [hst]
          exact ⟨hP, r1, g1, h1, h3⟩
theorem ab_W_mono {Q' : Option Value → ab_S → Prop} {f : ab_F} (h : ab_W call ro mc ms pg Q f) (hq : ∀ r g, Q r g → Q' r g) : ab_W call ro mc ms pg Q' f := by
  obtain ⟨n, h⟩ := h
  refine ⟨n, ?_⟩
  induction n generalizing f with
  | zero => exact h
  | succ n ih =>
    unfold ab_run at h ⊢
    dsimp only at h ⊢
    cases hpg : pg f.1 with
    | none => rw [hpg] at h; exact h.elim
    | some en =>
      rw [hpg] at h
      dsimp only at h ⊢
      cases hst : ab_step ro mc ms en f with
      | none => rw [hst] at h; exact h.elim
      | some x =>
        obtain ⟨P1, nx1⟩ := x
        rw [hst] at h
        rcases nx1 with f1 | ⟨r, g⟩ | ⟨c, as, pc, ll, st, c1, s1, g⟩
        · exact ⟨h.1, ih h.2⟩
        · exact ⟨h.1, hq _ _ h.2⟩
        · obtain ⟨hP, r1, g1, h1, h2⟩ := h
          exact ⟨hP, r1, g1, h1, ih h2⟩
end ABG
/-- method k, with these arguments in this memory, comes to an end with Q -/
def ab_C (ro : ab_E) (d k : Nat) (as : List Value) (g : ab_S) (Q : Option Value → ab_S → Prop) : Prop := ∃ r g', ab_sem ro ab_mt d k as g r g' ∧ Q r g'
theorem ab_C_of {ro : ab_E} {d k : Nat} {as : List Value} {g : ab_S} {Q : Option Value → ab_S → Prop} {pg : Nat → Option ab_I} {nL mc ms : Nat} (hk : ab_mt k = some (pg, nL, mc, ms)) (he : Nat.ble (ab_ea as).length nL = true) (h : ab_W (ab_sem ro ab_mt d) ro mc ms pg Q (0, ab_ent nL as, [], 0, 0, g)) : ab_C ro (d + 1) k as g Q := by
  obtain ⟨r, g', hq, n, hn⟩ := ab_W_ex h
  refine ⟨r, g', ?_, hq⟩
  unfold ab_sem
  rw [hk]
  exact ⟨he, n, hn⟩
theorem ab_C_mono {ro : ab_E} {d k : Nat} {as : List Value} {g : ab_S} {Q Q' : Option Value → ab_S → Prop} (h : ab_C ro d k as g Q) (hq : ∀ r g, Q r g → Q' r g) : ab_C ro d k as g Q' := by
  obtain ⟨r, g', h1, h2⟩ := h
  exact ⟨r, g', h1, hq _ _ h2⟩
