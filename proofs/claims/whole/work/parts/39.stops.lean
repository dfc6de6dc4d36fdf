/-! Walking with places to stop at: the law. -/
section ABJ
variable {call : Nat → List Value → ab_S → Option Value → ab_S → Prop} {ro : ab_E} {mc ms : Nat} {pg : Nat → Option ab_I} {sp : Nat → Bool} {Q : Option Value → ab_S → Prop} {X : ab_F → Prop}
def ab_X (call : Nat → List Value → ab_S → Option Value → ab_S → Prop) (ro : ab_E) (mc ms : Nat) (pg : Nat → Option ab_I) (sp : Nat → Bool) (Q : Option Value → ab_S → Prop) (X : ab_F → Prop) (f : ab_F) : Prop := ∃ n, ab_run call ro mc ms pg sp Q X n f
theorem ab_xs {f : ab_F} (h : sp f.1 = true) (hx : X f) : ab_X call ro mc ms pg sp Q X f := ⟨1, by unfold ab_run; rw [h]; exact hx⟩
/-- k steps -/
def ab_gx (ro : ab_E) (mc ms : Nat) (pg : Nat → Option ab_I) (sp : Nat → Bool) : Nat → ab_F → Option (Prop × ab_N)
  | 0, f => some (True, .inl f)
  | n + 1, f => match sp f.1 with
    | true => none
    | false => match pg f.1 with
      | none => none
      | some en => match ab_step ro mc ms en f with
        | none => none
        | some (P, .inl f') => match ab_gx ro mc ms pg sp n f' with
          | none => none
          | some (P', nx) => some (P ∧ P', nx)
        | some (P, .inr x) => some (P, .inr x)
theorem ab_gx_ok : ∀ (k : Nat) (f : ab_F) (P : Prop) (nx : ab_N), ab_gx ro mc ms pg sp k f = some (P, nx) → P →
    (match nx with
      | .inl f' => ab_X call ro mc ms pg sp Q X f'
      | .inr (.inl (r, g)) => Q r g
      | .inr (.inr (c, as, pc, ll, st, c1, s1, g)) => ∃ r g', call c as g r g' ∧ ab_X call ro mc ms pg sp Q X (pc, ll, r.toList ++ st, c1, s1, g')) → ab_X call ro mc ms pg sp Q X f := by
  intro k
  induction k with
  | zero =>
    intro f P nx h hP hn
    cases h
    exact hn
  | succ k ih =>
    intro f P nx h hP hn
    unfold ab_gx at h
    cases hsp : sp f.1 with
    | true => rw [hsp] at h; cases h
    | false =>
      rw [hsp] at h
      dsimp only at h
      cases hpg : pg f.1 with
      | none => rw [hpg] at h; cases h
      | some en =>
        rw [hpg] at h
        dsimp only at h
        cases hst : ab_step ro mc ms en f with
        | none => rw [hst] at h; cases h
        | some x =>
          obtain ⟨P1, nx1⟩ := x
          rw [hst] at h
          rcases nx1 with f1 | x1
          · dsimp only at h
            cases hg : ab_gx ro mc ms pg sp k f1 with
            | none => rw [hg] at h; cases h
            | some y =>
              obtain ⟨P2, nx2⟩ := y
              rw [hg] at h
              cases h
              obtain ⟨n, hn2⟩ := ih f1 _ _ hg hP.2 hn
              refine ⟨n + 1, ?_⟩
              unfold ab_run
              rw [hsp]
              dsimp only
              rw [hpg]
              dsimp only
              rw [hst]
              exact ⟨hP.1, hn2⟩
          · cases h
            rcases x1 with ⟨r, g⟩ | ⟨c, as, pc, ll, st, c1, s1, g⟩
            · refine ⟨1, ?_⟩
              unfold ab_run
              rw [hsp]
              dsimp only
              rw [hpg]
              dsimp only
              rw [hst]
              exact ⟨hP, hn⟩
            · obtain ⟨r, g', h1, n, h2⟩ := hn
              refine ⟨n + 1, ?_⟩
              unfold ab_run
              rw [hsp]
              dsimp only
              rw [hpg]
              dsimp only
              rw [hst]
              exact ⟨hP, r, g', h1, h2⟩
theorem ab_xk (k : Nat) {f f' : ab_F} {P : Prop} (h : ab_gx ro mc ms pg sp k f = some (P, .inl f')) (hP : P) (kk : ab_X call ro mc ms pg sp Q X f') : ab_X call ro mc ms pg sp Q X f := ab_gx_ok k f P _ h hP kk
theorem ab_xr (k : Nat) {f : ab_F} {P : Prop} {r : Option Value} {g : ab_S} (h : ab_gx ro mc ms pg sp k f = some (P, .inr (.inl (r, g)))) (hP : P) (kk : Q r g) : ab_X call ro mc ms pg sp Q X f := ab_gx_ok k f P _ h hP kk
theorem ab_xc (k : Nat) {f : ab_F} {P : Prop} {c : Nat} {as : List Value} {pc : Nat} {ll : ab_L} {st : List Value} {c1 s1 : Nat} {g : ab_S} (h : ab_gx ro mc ms pg sp k f = some (P, .inr (.inr (c, as, pc, ll, st, c1, s1, g)))) (hP : P) {r : Option Value} {g' : ab_S} (hc : call c as g r g')
    (kk : ab_X call ro mc ms pg sp Q X (pc, ll, r.toList ++ st, c1, s1, g')) : ab_X call ro mc ms pg sp Q X f := ab_gx_ok k f P _ h hP ⟨r, g', hc, kk⟩
theorem ab_xi {c : Prop} [Decidable c] {a b : Nat} {ll : ab_L} {st : List Value} {c1 s1 : Nat} {g : ab_S} (h1 : c → ab_X call ro mc ms pg sp Q X (a, ll, st, c1, s1, g)) (h2 : ¬ c → ab_X call ro mc ms pg sp Q X (b, ll, st, c1, s1, g)) : ab_X call ro mc ms pg sp Q X (if c then a else b, ll, st, c1, s1, g) := by
  by_cases h : c
  · rw [if_pos h]; exact h1 h
  · rw [if_neg h]; exact h2 h
theorem ab_xit {c : Prop} [Decidable c] {a b : Nat} {ll : ab_L} {st : List Value} {c1 s1 : Nat} {g : ab_S} (hc : c) (h : ab_X call ro mc ms pg sp Q X (a, ll, st, c1, s1, g)) : ab_X call ro mc ms pg sp Q X (if c then a else b, ll, st, c1, s1, g) := by
  rw [if_pos hc]; exact h
theorem ab_xif {c : Prop} [Decidable c] {a b : Nat} {ll : ab_L} {st : List Value} {c1 s1 : Nat} {g : ab_S} (hc : ¬ c) (h : ab_X call ro mc ms pg sp Q X (b, ll, st, c1, s1, g)) : ab_X call ro mc ms pg sp Q X (if c then a else b, ll, st, c1, s1, g) := by
  rw [if_neg hc]; exact h
end ABJ
