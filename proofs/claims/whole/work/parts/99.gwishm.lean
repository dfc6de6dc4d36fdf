/-! A wish, the reference's side. -/
section WM
variable {ro : ab_E} {d : Nat} {mi mi' : cM1} {ml ml' : cM2} {T : tSt} {z z1 : Nat × Nat} {lo hi : Int64} {b : Bool}
theorem m_lineF (Z : tOK T) (c0 : ¬ z.1 = 0) (R : RM T z mi ml) : ∃ mi' ml', cS ro (d + 31) 169 [.ref 40] mi ml none mi' ml' ∧ RM T z mi' ml' ∧ fr gRA gRB mi ml mi' ml' ∧ mi' 40 2 = mi 40 2 := by
  refine ab_ex_q rfl rfl (fun Q hQ => vc_X12_readLine_0 mi ml ?_)
  have w0 := m_isWord (ro := ro) (d := d + 29) (w := 0) (v := 0) Z rfl (by decide) R
  have w1 := m_isWord (ro := ro) (d := d + 29) (w := 1) (v := 1) Z rfl (by decide) R
  refine ⟨_, mi, ml, w0, fun _ => ⟨_, mi, ml, w1, fun _ => ?_, fun q => absurd (pI_e0.2 (fun h => c0 h.1)) q⟩, fun q => absurd (pI_e0.2 (fun h => c0 h.1)) q⟩
  obtain ⟨a4, g1, g2, g3⟩ := m_wrong (ro := ro) (d := d + 29) (v := 1) Z (k := 1) rfl (by decide) R
  have ez : flz T 1 z = z := by unfold flz; rw [if_neg c0]
  rw [ez] at g2
  have hb := g2.2.2.1
  refine ⟨a4, ml, g1, ?_⟩
  rw [g2.2.1, xg_0 (by omega)]
  exact ⟨fun _ => hQ _ _ ⟨g2, gR_mr g3, g3.1 40 2 rfl⟩, fun q => absurd (by omega) q⟩
/-- a line, whatever the state; its row 0 -/
theorem m_lineA (Z : tOK T) (R : RM T z mi ml) (hn : mi 40 16 = 0) (ln : LN T z z1 b lo hi) : ∃ mi' ml', cS ro (d + 31) 169 [.ref 40] mi ml none mi' ml' ∧ RM T z1 mi' ml' ∧ fr gRA gRB mi ml mi' ml' ∧ mi' 40 2 = mi 40 2 ∧ (z1.1 = 0 → mi' 49 0 = bI (!b) ∧ ml' 50 0 = lo ∧ ml' 51 0 = hi) := by
  by_cases c0 : z.1 = 0
  · have ez : (0, z.2) = z := by rw [← c0]
    obtain ⟨m', l', s', R', F', LMx⟩ := m_line (ro := ro) (d := d) (n := 0) Z (R.e0 c0) hn (by decide) (by rw [ez]; exact ln)
    exact ⟨m', l', s', R', F', LMx.2.2, fun q => (LMx.1 q).2⟩
  · rcases ln with ⟨c, _⟩ | ⟨_, rfl⟩
    · exact absurd c c0
    · obtain ⟨m', l', s', R', F', e⟩ := m_lineF (ro := ro) (d := d) Z c0 R
      exact ⟨m', l', s', R', F', e, fun q => absurd q c0⟩
end WM
