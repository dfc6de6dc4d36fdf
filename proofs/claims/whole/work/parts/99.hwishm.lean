/-! A wish, the reference's side: all. -/
section WN
variable {ro : ab_E} {mi : cM1} {ml : cM2} {T : tSt} {z : Nat × Nat} {lo hi : Int64} {b : Bool}
theorem fi_f (h : ¬ z.1 = 0) : fiz T z = z := by
  unfold fiz flz
  by_cases cK : tK T z.2 = 0
  · rw [if_pos cK]
  · rw [if_neg cK, if_neg h]
set_option maxHeartbeats 2000000 in
theorem m_wish (Z : tOK T) (M : mT T mi) (hx : ∀ w, w < 22 → ml 45 w = wds.getD w 0) {x : Int32} {k n : Nat} (hW : cS ro 39 178 [.int x, .int 0, .int 99] (ab_ui mi 40 0 0) ml (some (.int 1)) (ab_ui mi 40 0 0) ml) (hN : mi 40 20 = nI k) (hk : k < 30) (h12 : mi 40 12 = nI n) (hn : n ≤ 12) (g : WR T n z b lo hi) :
    ∃ mi' ml', cS ro 40 171 [.ref 40, .int x] mi ml (some (.int (nI z.1))) mi' ml' ∧ ∃ m0 l0, fr gRA gRB mi ml m0 l0 ∧ m0 40 2 = 0 ∧ (¬ z.1 = 0 → mi' = m0 ∧ ml' = l0) ∧ (z.1 = 0 → mi' = KI x (nI (vb T 0)) (if vb T 0 = 3 then -1 else nI (nmr T n (0, tE T 0))) k m0 ∧ ml' = KL k l0 ∧ (2 ≤ vb T 0 → m0 49 0 = bI (!b) ∧ l0 50 0 = lo ∧ l0 51 0 = hi)) := by
  refine ab_ex_q rfl rfl (fun Q hQ => vc_X12_wish_0 x mi ml ⟨_, _, _, hW, fun q => (by cases q), fun _ => ?_⟩)
  have M0 : mT T (ab_ui mi 40 0 0) := ⟨by simp [ui_app]; exact M.1, fun i hi => by rw [ui_app, if_neg (by decide)]; exact M.2 i hi⟩
  have e20 : ab_ui mi 40 0 0 40 20 = nI k := by simp [ui_app]; exact hN
  obtain ⟨a1, b1, s1, mt, e7, e8, e2, F1⟩ := s_cutAll (ro := ro) (d := 36) (ml := ml) Z M0
  have F0 : fr gRA gRB mi ml (ab_ui mi 40 0 0) ml := fr.rf.ui _ rfl
  have R1 : RM T (0, 0) (ab_ui a1 40 16 0) b1 := (RM0 mt e7 e8 (fun w hw => by rw [F1.2 45 w rfl]; exact hx w hw)).of (by funext j; simp [ui_app]) (by funext j; simp [ui_app]) (by simp [ui_app]) (by simp [ui_app]) rfl rfl
  have FA : fr gRA gRB mi ml (ab_ui a1 40 16 0) b1 := (F0.tr (gR_cu F1)).ui _ rfl
  have A2 : ab_ui a1 40 16 0 40 2 = 0 := by simp [ui_app]; exact e2
  have A16 : ab_ui a1 40 16 0 40 16 = 0 := by simp [ui_app]
  have A8 : ab_ui a1 40 16 0 40 8 = 0 := by simp [ui_app]; exact e8
  rw [e20, xe_30 (by omega)]
  refine ⟨fun q => absurd q (by omega), fun _ => ⟨a1, b1, s1, ?_⟩⟩
  generalize ab_ui a1 40 16 0 = A at *
  have fin : ∀ z' m l v t, RM T z' m l → fr gRA gRB mi ml m l → m 40 2 = 0 → z = fiz T z' → (z.1 = 0 → v = nI (vb T 0) ∧ t = (if vb T 0 = 3 then -1 else nI (nmr T n (0, tE T 0)))) → (z.1 = 0 → 2 ≤ vb T 0 → m 49 0 = bI (!b) ∧ l 50 0 = lo ∧ l 51 0 = hi) → wE ro Q x v t m l := fun z' m l v t R F e ez hv hr => by
    refine m_wE Z R hk ((F.1 40 20 rfl).trans hN) (fun nz m' F' => ?_) (fun z0 => ?_)
    · rw [← ez] at nz ⊢
      exact hQ _ _ ⟨m', l, F.tr (gR_mr F'), (F'.1 40 2 rfl).trans e, fun _ => ⟨rfl, rfl⟩, fun q => absurd q nz⟩
    · rw [← ez] at z0 ⊢
      obtain ⟨rfl, rfl⟩ := hv z0
      exact hQ _ _ ⟨m, l, F, e, fun q => absurd z0 q, fun _ => ⟨rfl, rfl, hr z0⟩⟩
  have y : ∀ {B : Prop}, ¬ pI ((0, 0).1 = 0 ∧ B) = 0 → pB B = true := fun h => pB_iff.2 (Classical.not_not.1 (fun q => h (pI_e0.2 q))).2
  have nn : ∀ {B : Prop}, pI ((0, 0).1 = 0 ∧ B) = 0 → ¬ pB B = true := fun h q => pI_e0.1 h ⟨rfl, pB_iff.1 q⟩
  have st : ¬ tK T 0 = 0 → RM T (0, tE T 0) (ab_ui A 40 7 (A 40 7 + 1)) b1 ∧ fr gRA gRB mi ml (ab_ui A 40 7 (A 40 7 + 1)) b1 ∧ ab_ui A 40 7 (A 40 7 + 1) 40 2 = 0 ∧ ab_ui A 40 7 (A 40 7 + 1) 40 16 = 0 ∧ ab_ui A 40 7 (A 40 7 + 1) 40 12 = nI n := fun hK => ⟨R1.st hK, FA.ui _ rfl, by simp [ui_app]; exact A2, by simp [ui_app]; exact A16, by simp [ui_app]; exact (FA.1 40 12 rfl).trans h12⟩
  have kK : ∀ {j : Nat}, pB (wdP T j 0) = true → ¬ tK T 0 = 0 := fun h => by rw [(pB_iff.1 h).1]; decide
  -- strike and keep
  have two : ∀ v : Int32, vb T 0 < 2 → v = nI (vb T 0) → ¬ tK T 0 = 0 → ∃ (r : Int32) (m2 : cM1) (l2 : cM2), cS ro 39 176 [.ref 40] (ab_ui A 40 7 (A 40 7 + 1)) b1 (some (.int r)) m2 l2 ∧ ∃ (m3 : cM1) (l3 : cM2), cS ro 39 156 [.ref 40, .int 59] m2 l2 none m3 l3 ∧ wE ro Q x v r m3 l3 := fun v h2 hv hK => by
    obtain ⟨Rs, Fs, q2, q16, q12⟩ := st hK
    obtain ⟨r, m2, s2, R2, F2, hr⟩ := m_takeLine (ro := ro) (d := 37) Z q12 (by omega) rfl Rs
    obtain ⟨m3, s3, R3, F3⟩ := m_takeSign (ro := ro) (d := 37) (k := 6) (c := 59) (v := 59) Z rfl (Or.inr (Or.inr ⟨rfl, rfl⟩)) R2
    have FM := F2.tr F3
    have ez := g.2.2.2 h2
    refine ⟨r, m2, b1, s2, m3, b1, s3, fin _ m3 b1 v r R3 (Fs.tr (gR_mr FM)) ((FM.1 40 2 rfl).trans q2) ez (fun z0 => ⟨hv, ?_⟩) (fun _ q => absurd q (by omega))⟩
    rw [if_neg (by omega)]
    exact hr (sg_0 (fi_0 (by rw [← ez]; exact z0)))
  refine ⟨_, A, b1, m_isWord (w := 10) Z rfl (by decide) R1, fun c3 => ⟨_, A, b1, m_isWord (w := 11) Z rfl (by decide) R1, fun c4 => ⟨_, A, b1, m_isWord (w := 12) Z rfl (by decide) R1, fun c5 => ⟨_, A, b1, m_isWord (w := 14) Z rfl (by decide) R1, fun c6 => ?_, fun c6 => ?_⟩, fun c5 => ?_⟩, fun c4 => ?_⟩, fun c3 => ?_⟩
  · have v4 : vb T 0 = 4 := by unfold vb; rw [if_neg (show ¬ pB (wdP T 3 0) = true from nn c3), if_neg (show ¬ pB (wdP T 4 0) = true from nn c4), if_neg (show ¬ pB (wdP T 5 0) = true from nn c5), if_neg (show ¬ pB (wdP T 6 0) = true from nn c6)]
    obtain ⟨a4, g1, g2, g3⟩ := m_wrong (ro := ro) (d := 38) (v := 1) Z (k := 1) rfl (by decide) R1
    have nz := flz_n (T := T) (z := (0, 0)) 1 (by decide)
    have hb := g2.2.2.1
    refine ⟨a4, b1, g1, ?_⟩
    obtain ⟨m3, s3, R3, F3⟩ := m_takeSign (ro := ro) (d := 37) (k := 6) (c := 59) (v := 59) Z rfl (Or.inr (Or.inr ⟨rfl, rfl⟩)) g2
    rw [sg_f nz] at R3
    have f0 : ¬ a4 40 8 = 0 := by rw [g2.2.1, xe_0 (by omega)]; exact nz
    have FM := g3.tr F3
    refine ⟨fun q => absurd q f0, fun _ => ⟨m3, b1, s3, fin _ m3 b1 _ _ R3 (FA.tr (gR_mr FM)) ((FM.1 40 2 rfl).trans A2) (by rw [fi_f nz]; exact g.1 v4) (fun q => absurd q (by rw [g.1 v4]; exact nz)) (fun q => absurd q (by rw [g.1 v4]; exact nz))⟩⟩
  · have v3 : vb T 0 = 3 := by unfold vb; rw [if_neg (show ¬ pB (wdP T 3 0) = true from nn c3), if_neg (show ¬ pB (wdP T 4 0) = true from nn c4), if_neg (show ¬ pB (wdP T 5 0) = true from nn c5), if_pos (show pB (wdP T 6 0) = true from y c6)]
    obtain ⟨z1, ln, ez⟩ := g.2.1 v3
    obtain ⟨Rs, Fs, q2, q16, q12⟩ := st (kK (y c6))
    obtain ⟨m3, l3, s3, R3, F3, u2, ur⟩ := m_lineA (ro := ro) (d := 8) Z Rs q16 ln
    refine ⟨fun _ => ⟨m3, l3, s3, fin _ m3 l3 _ _ R3 (Fs.tr F3) (u2.trans q2) ez (fun _ => ⟨by rw [v3]; rfl, by rw [if_pos v3]⟩) (fun z0 _ => ur (fi_0 (by rw [← ez]; exact z0)))⟩, fun q => absurd A8 q⟩
  · have v2 : vb T 0 = 2 := by unfold vb; rw [if_neg (show ¬ pB (wdP T 3 0) = true from nn c3), if_neg (show ¬ pB (wdP T 4 0) = true from nn c4), if_pos (show pB (wdP T 5 0) = true from y c5)]
    obtain ⟨z1, ln, ez⟩ := g.2.2.1 v2
    obtain ⟨Rs, Fs, q2, q16, q12⟩ := st (kK (y c5))
    obtain ⟨r, m2, s2, R2, F2, hr⟩ := m_takeLine (ro := ro) (d := 37) Z q12 (by omega) rfl Rs
    obtain ⟨m4, s4, R4, F4⟩ := m_takeWord (ro := ro) (d := 36) (w := 13) (v := 13) Z rfl (by decide) R2
    have FM := F2.tr F4
    have R4 : RM T (wdz T 2 (nmz T n (0, tE T 0))) m4 b1 := R4
    obtain ⟨m3, l3, s3, R3, F3, u2, ur⟩ := m_lineA (ro := ro) (d := 8) Z R4 ((FM.1 40 16 rfl).trans q16) ln
    refine ⟨fun _ => ⟨r, m2, b1, s2, m4, b1, s4, m3, l3, s3, fin _ m3 l3 _ _ R3 ((Fs.tr (gR_mr FM)).tr F3) (u2.trans ((FM.1 40 2 rfl).trans q2)) ez (fun z0 => ⟨by rw [v2]; rfl, ?_⟩) (fun z0 _ => ur (fi_0 (by rw [← ez]; exact z0)))⟩, fun q => absurd A8 q⟩
    rw [if_neg (by omega)]
    have z10 : z1.1 = 0 := fi_0 (by rw [← ez]; exact z0)
    have : (wdz T 2 (nmz T n (0, tE T 0))).1 = 0 := by
      rcases ln with ⟨c, _⟩ | ⟨c, rfl⟩
      · exact c
      · exact z10
    exact hr (wd_0 this).1
  · have v1 : vb T 0 = 1 := by unfold vb; rw [if_neg (show ¬ pB (wdP T 3 0) = true from nn c3), if_pos (show pB (wdP T 4 0) = true from y c4)]
    exact ⟨fun _ => two 1 (by omega) (by rw [v1]; rfl) (kK (y c4)), fun q => absurd A8 q⟩
  · have v0 : vb T 0 = 0 := by unfold vb; rw [if_pos (show pB (wdP T 3 0) = true from y c3)]
    exact ⟨fun _ => two 0 (by omega) (by rw [v0]; rfl) (kK (y c3)), fun q => absurd A8 q⟩
end WN
