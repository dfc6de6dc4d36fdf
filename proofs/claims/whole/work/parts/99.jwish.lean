/-! Wishes: both sides. -/
section WO
variable {L : Nat} {xs : Nat → Int32}
theorem nm_lt {T : tSt} {n : Nat} {z : Nat × Nat} (h : (nmz T n z).1 = 0) : nmr T n z < n := by
  revert h; unfold nmz nmr
  by_cases c : z.1 = 0 ∧ tK T z.2 = 3
  · rw [if_pos c]
    by_cases c2 : nmv T z.2 < n
    · rw [if_pos (show z.1 = 0 ∧ tK T z.2 = 3 ∧ nmv T z.2 < n from ⟨c.1, c.2, c2⟩)]; exact fun _ => c2
    · rw [if_neg c2]; exact fun h => absurd h (flz_n 4 (by decide))
  · rw [if_neg c]; exact fun h => absurd h (flz_n 1 (by decide))
/-- a wish that was read has a line of the law, or none -/
theorem wr_t {T : tSt} {n : Nat} {z : Nat × Nat} {b : Bool} {lo hi : Int64} (g : WR T n z b lo hi) (h0 : z.1 = 0) : vb T 0 < 4 ∧ (¬ vb T 0 = 3 → nmr T n (0, tE T 0) < n) := by
  have h := vb_lt T 0
  have h4 : ¬ vb T 0 = 4 := fun c => by rw [g.1 c] at h0; exact absurd h0 (flz_n 1 (by decide))
  refine ⟨by omega, fun c3 => nm_lt ?_⟩
  by_cases c2 : vb T 0 = 2
  · obtain ⟨z1, ln, rfl⟩ := g.2.2.1 c2
    have z10 : z1.1 = 0 := fi_0 h0
    have : (wdz T 2 (nmz T n (0, tE T 0))).1 = 0 := by
      rcases ln with ⟨c, _⟩ | ⟨c, rfl⟩
      · exact c
      · exact z10
    exact (wd_0 this).1
  · rw [g.2.2.2 (by omega)] at h0
    exact sg_0 (fi_0 h0)
end WO
