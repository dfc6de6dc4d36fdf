/-! Laws: both sides. -/
section LC
variable {L : Nat} {xs : Nat → Int32}
set_option maxHeartbeats 2000000 in
theorem op_law : OP (ab_ro L xs) 106 170 [] := by
  intro mi ml R
  obtain ⟨O, OM, K⟩ := id R
  obtain ⟨T, Z, C, M⟩ := tape_of O OM
  obtain ⟨f, n, z, h⟩ := law_ex Z
  obtain ⟨m1, l1, s1, LE1⟩ := s_readLaw (L := L) (xs := xs) (d := 7) (ml := ml) Z C h
  have hz := LE1.1.2.2.2.2
  have hn := LE1.2.2.1
  have F1 := LE1.2.2.2.2
  have F40 := re_40 F1
  by_cases z0 : z.1 = 0
  · have hr : rows f n (ab_ui m1 2 2 0) l1 := fun j hj => by rw [ui_app, if_neg (by decide)]; exact LE1.2.2.2.1 z0 j hj
    obtain ⟨l3, s3, p3, q3⟩ := s_enact (ro := ab_ro L xs) (d := 37) (mi := ab_ui m1 2 2 0) (ml := l1) hn (by simp [ui_app]; exact LE1.2.1) hr
    obtain ⟨m4, s4, p4, q4⟩ := s_forget (ro := ab_ro L xs) (d := 38) (mi := ab_ui (ab_ui (ab_ui (ab_ui m1 2 2 0) 9 3 (nI n)) 12 5 0) 18 6 0) (ml := l3)
    have sc : cS (ab_ro L xs) 40 106 [.ref 0] mi ml (some (.int (nI z.1))) (ab_ui m4 0 12 1) l3 := by
      refine ab_sem_q rfl rfl (fun Q hQ => vc_X11_law_0 mi ml ⟨_, m1, l1, s1, _, _, s_clear, ?_⟩)
      rw [xe_0 (by omega)]
      exact ⟨fun _ => ⟨_, l3, s3, m4, l3, s4, hQ⟩, fun q => absurd z0 q⟩
    -- the cells behind the class
    have g : ∀ k j, ¬ k = 2 → ¬ k = 5 → ¬ k = 8 → ¬ (k = 0 ∧ j = 12) → ¬ (k = 9 ∧ j = 3) → ¬ (k = 12 ∧ j = 5) → ¬ (k = 18 ∧ j = 6) → ¬ k = 37 → ab_ui m4 0 12 1 k j = mi k j := fun k j h1 h2 h3 h4 h5 h6 h7 h8 => by
      have u : ∀ (m : cM1) a b v, ¬ (k = a ∧ j = b) → ab_ui m a b v k j = m k j := fun m a b v h => by
        rw [ui_app]
        by_cases e : k = a
        · rw [if_pos e, if_neg (fun e' => h ⟨e, e'⟩)]
        · rw [if_neg e]
      rw [u _ _ _ _ h4, q4 k j h8, u _ _ _ _ h7, u _ _ _ _ h6, u _ _ _ _ h5, u _ _ _ _ (fun q => h1 q.1)]
      refine F1.1 k j (Bool.eq_false_iff.2 (fun q => ?_))
      unfold reA tkI at q
      simp only [Bool.or_eq_true, Bool.and_eq_true, beqT] at q
      omega
    have gl : ∀ k j, ¬ k = 5 → ¬ k = 6 → ¬ k = 7 → ¬ k = 10 → ¬ k = 11 → ¬ (k = 9 ∧ j = 2) → l3 k j = ml k j := fun k j h1 h2 h3 h4 h5 h6 => by
      rw [q3 k j h4 h5 h6]
      refine F1.2 k j (Bool.eq_false_iff.2 (fun q => ?_))
      unfold reB at q
      simp only [Bool.or_eq_true, beqT] at q
      omega
    have g40 : ∀ k j, 40 ≤ k → ab_ui m4 0 12 1 k j = mi k j := fun k j hk => g k j (by omega) (by omega) (by omega) (by omega) (by omega) (by omega) (by omega) (by omega)
    have gl40 : ∀ k j, 40 ≤ k → l3 k j = ml k j := fun k j hk => gl k j (by omega) (by omega) (by omega) (by omega) (by omega) (by omega)
    obtain ⟨m5, l5, s5, e2, _, hs⟩ := m_law (ro := ab_ro L xs) (mi := ab_ui m4 0 12 1) (ml := l3) Z ⟨(g40 40 2 (by decide)).trans M.1, fun i hi => (g40 41 i (by decide)).trans (M.2 i hi)⟩ (fun w hw => by rw [gl40 45 w (by decide)]; exact OM.x w hw) h
    obtain ⟨r1, r2, r3, r4, r5, F⟩ := hs z0
    refine ⟨_, _, _, _, _, sc, s5, ?_⟩
    have e93 : m5 9 3 = nI n := by
      rw [F.1 9 3 rfl, ui_app, if_neg (by decide), q4 9 3 (by decide)]; simp [ui_app]
    have e125 : m5 12 5 = 0 := by
      rw [F.1 12 5 rfl, ui_app, if_neg (by decide), q4 12 5 (by decide)]; simp [ui_app]
    have e186 : m5 18 6 = 0 := by
      rw [F.1 18 6 rfl, ui_app, if_neg (by decide), q4 18 6 (by decide)]; simp [ui_app]
    have e22 : m5 2 2 = 0 := by
      rw [F.1 2 2 rfl, ui_app, if_neg (by decide), q4 2 2 (by decide)]; simp [ui_app]
    have e012 : m5 0 12 = 1 := by rw [F.1 0 12 rfl]; simp [ui_app]
    have e37 : ∀ a, a < 7 → m5 37 a = 0 := fun a ha => by rw [F.1 37 a rfl, ui_app, if_neg (by decide)]; exact p4 a ha
    have e182 : m5 18 2 = mi 18 2 := by rw [F.1 18 2 rfl]; exact g 18 2 (by omega) (by omega) (by omega) (by omega) (by omega) (by omega) (by omega) (by omega)
    have cc : ∀ k, ¬ k = 2 ∧ ¬ k = 5 ∧ ¬ k = 8 ∧ ¬ k = 0 ∧ ¬ k = 9 ∧ ¬ k = 12 ∧ ¬ k = 18 ∧ ¬ k = 37 → (∀ j, gLA k j = false) → m5 k = mi k := fun k hk hj => funext (fun j => by
      rw [F.1 k j (hj j)]; exact g k j (by omega) (by omega) (by omega) (by omega) (by omega) (by omega) (by omega) (by omega))
    have nLe : nL m5 = n := by unfold nL; rw [e93, nI_clamp (by omega)]
    have nWe : nW m5 = 0 := by unfold nW; rw [e125]; rfl
    have nRe : nR m5 = 0 := by unfold nR; rw [e186]; rfl
    have nTe : nT m5 = 0 := by unfold nT; rw [e22]; rfl
    have nCe : nC m5 = nC mi := by unfold nC; rw [e182]
    refine ⟨?_, ?_, fun q => absurd q (by rw [e012]; decide)⟩
    · unfold okT
      rw [nLe, nWe, nRe, nTe, nCe, e93, e125, e186, e182, e22, cc 19 (by decide) (fun _ => rfl), cc 20 (by decide) (fun _ => rfl), cc 24 (by decide) (fun _ => rfl), cc 1 (by decide) (fun _ => rfl)]
      refine ⟨⟨rfl, hn⟩, ⟨rfl, by decide⟩, O.2.2.1, ⟨rfl, by decide⟩, fun w hw => absurd hw (Nat.not_lt_zero w), O.c, fun w hw => absurd hw (Nat.not_lt_zero w), O.h, fun a ha i _ => ?_, O.d, rfl, by decide, fun i hi => absurd hi (Nat.not_lt_zero i)⟩
      rw [e37 a ha]
      show (0 : BitVec 32).getLsbD i = false
      simp
    · unfold okM
      rw [nLe, nWe, nRe, nTe, nCe, e93, e125, e186, e182, e22, cc 1 (by decide) (fun _ => rfl), cc 24 (by decide) (fun _ => rfl), cc 19 (by decide) (fun _ => rfl), cc 20 (by decide) (fun _ => rfl), cc 60 (by decide) (fun _ => rfl), cc 81 (by decide) (fun _ => rfl), cc 82 (by decide) (fun _ => rfl)]
      have f40 : ∀ j, gLA 40 j = false → m5 40 j = mi 40 j := fun j hj => by rw [F.1 40 j hj]; exact g40 40 j (by decide)
      refine ⟨⟨r1, r2, r3, (f40 34 rfl).trans OM.s34, (f40 35 rfl).trans OM.s35, (f40 69 rfl).trans OM.s69, e2⟩, fun l hl => ?_, fun w hw => absurd hw (Nat.not_lt_zero w), fun w hw => absurd hw (Nat.not_lt_zero w), OM.h, fun w hw => absurd hw (Nat.not_lt_zero w), fun a ha b hb => ?_, OM.c, fun i hi => absurd hi (Nat.not_lt_zero i), fun w hw => ?_⟩
      · have v := r4 l hl
        have w := p3 l hl
        have eB : mB l5 l = (f l).1 := by
          rw [← w.2.2]; unfold mB; rw [F.2 9 2 rfl]
        rw [v.1, v.2.1, v.2.2, eB, F.2 10 l rfl, F.2 11 l rfl, w.1, w.2.1]
        exact ⟨rfl, rfl, rfl⟩
      · rw [r5 _ (by omega), e37 a ha]
        have : b3 0 b = false := by
          show (0 : BitVec 32).getLsbD b = false
          simp
        rw [this]; rfl
      · rw [F.2 45 w rfl, gl40 45 w (by decide)]; exact OM.x w hw
  · have sc : cS (ab_ro L xs) 40 106 [.ref 0] mi ml (some (.int (nI z.1))) (ab_ui m1 2 2 0) l1 := by
      refine ab_sem_q rfl rfl (fun Q hQ => vc_X11_law_0 mi ml ⟨_, m1, l1, s1, _, _, s_clear, ?_⟩)
      rw [xe_0 (by omega)]
      exact ⟨fun q => absurd q z0, fun _ => hQ⟩
    have k40 : ∀ k j, 40 ≤ k → ab_ui m1 2 2 0 k j = mi k j := fun k j hk => by
      rw [ui_app, if_neg (by omega)]; exact F40.1 k j hk
    obtain ⟨m5, l5, s5, e2, hf, _⟩ := m_law (ro := ab_ro L xs) (mi := ab_ui m1 2 2 0) (ml := l1) Z ⟨(k40 40 2 (by decide)).trans M.1, fun i hi => (k40 41 i (by decide)).trans (M.2 i hi)⟩ (fun w hw => by rw [F40.2 45 w (by decide)]; exact OM.x w hw) h
    have F := hf z0
    exact ⟨_, _, _, _, _, sc, s5, Rel_tape R (((gW_re F1).ui _ rfl).tr (gW_gR F)) (by rw [F.1 2 2 rfl]; simp [ui_app]) e2⟩
end LC
