/-! Wishes: the call. -/
section WP
variable {L : Nat} {xs : Nat → Int32}
theorem w_no {mi : cM1} {ml : cM2} (R : Rel mi ml) {x : Int32} (c : ¬ ((∃ p, p < 99 + 1 ∧ x = nI p) ∧ nW mi < 30)) : ∃ r mi1 ml1 mi2 ml2, cS (ab_ro L xs) 40 107 [.ref 0, .int x] mi ml (some (.int r)) mi1 ml1 ∧ cS (ab_ro L xs) 40 171 [.ref 40, .int x] mi1 ml1 (some (.int r)) mi2 ml2 ∧ Rel mi2 ml2 := by
  obtain ⟨O, OM, K⟩ := id R
  have hW := O.W2
  have sc : cS (ab_ro L xs) 40 107 [.ref 0, .int x] mi ml (some (.int (-1))) (ab_ui mi 2 2 0) ml := by
    refine ab_sem_q rfl rfl (fun Q hQ => vc_X11_wish_0 x mi ml ⟨fun _ => ⟨_, _, s_clear, hQ⟩, fun c1 => ⟨fun c2 => ⟨fun c3 => ?_, fun _ => ⟨_, _, s_clear, hQ⟩⟩, fun _ => ⟨_, _, s_clear, hQ⟩⟩⟩)
    rw [O.W, xl_30 (by omega)] at c3
    exact absurd ⟨(rg2 (n := 100) (by decide)).1 ⟨c1, c2⟩, c3⟩ c
  have s2 : cS (ab_ro L xs) 40 171 [.ref 40, .int x] (ab_ui mi 2 2 0) ml (some (.int (-1))) (ab_ui (ab_ui (ab_ui mi 2 2 0) 40 0 0) 40 2 0) ml := by
    refine ab_sem_q rfl rfl (fun Q hQ => vc_X12_wish_0 x _ ml ⟨_, _, _, s_withinN _ 99 (by decide), ?_⟩)
    have e20 : ab_ui (ab_ui mi 2 2 0) 40 0 0 40 20 = nI (nW mi) := OM.s20.trans O.W
    rw [e20, xe_30 (by omega), pI_e0]
    exact ⟨fun _ => hQ, fun c1 => ⟨fun _ => hQ, fun c2 => absurd ⟨Classical.not_not.1 c1, by omega⟩ c⟩⟩
  exact ⟨_, _, _, _, _, sc, s2, Rel_tape R (((fr.rf.ui _ rfl).ui _ rfl).ui _ rfl) (by simp [ui_app]) (by simp [ui_app])⟩
end WP
