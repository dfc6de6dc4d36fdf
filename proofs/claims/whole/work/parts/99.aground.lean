/-! Grounds. -/
/-- what the reference's reading writes -/
def gRA (k j : Nat) : Bool := Nat.beq k 42 || Nat.beq k 43 || Nat.beq k 49 || (Nat.beq k 40 && (Nat.beq j 0 || Nat.beq j 2 || Nat.beq j 3 || Nat.beq j 7 || Nat.beq j 8 || Nat.beq j 16))
def gRB (k j : Nat) : Bool := Nat.beq k 44 || Nat.beq k 50 || Nat.beq k 51 || (Nat.beq k 40 && (Nat.beq j 10 || Nat.beq j 11))
section GD
variable {ro : ab_E} {L : Nat} {xs : Nat → Int32} {d : Nat} {mi mi' m1 m2 : cM1} {ml ml' l1 l2 : cM2} {T : tSt} {z : Nat × Nat} {lo hi : Int64}
theorem gR_cu (h : fr cuA cuB mi ml m1 l1) : fr gRA gRB mi ml m1 l1 := h.wk (fun k j q => by
    unfold cuA at q; unfold gRA
    simp only [Bool.or_eq_true, Bool.and_eq_true, beqT] at q ⊢
    omega) (fun k j q => by
    unfold cuB at q; unfold gRB
    simp only [Bool.or_eq_true, Bool.and_eq_true, beqT] at q ⊢
    omega)
theorem gR_mr (h : fr mrA mrB mi ml m1 l1) : fr gRA gRB mi ml m1 l1 := h.wk (fun k j q => by
    unfold mrA at q; unfold gRA
    simp only [Bool.or_eq_true, Bool.and_eq_true, beqT] at q ⊢
    omega) (fun k j q => by
    unfold mrB at q; unfold gRB
    simp only [Bool.or_eq_true, Bool.and_eq_true, beqT] at q ⊢
    omega)
theorem gW_gR (h : fr gRA gRB mi ml m1 l1) : fr gWA gWB mi ml m1 l1 := h.wk (fun k j q => by
    unfold gRA at q; unfold gWA
    simp only [Bool.or_eq_true, Bool.and_eq_true, beqT] at q ⊢
    omega) (fun k j q => by
    unfold gRB at q; unfold gWB
    simp only [Bool.or_eq_true, Bool.and_eq_true, beqT] at q ⊢
    omega)
theorem gW_re (h : fr reA reB mi ml m1 l1) : fr gWA gWB mi ml m1 l1 := h.wk (fun k j q => by
    unfold reA tkI at q; unfold gWA
    simp only [Bool.or_eq_true, Bool.and_eq_true, beqT] at q ⊢
    omega) (fun k j q => by
    unfold reB at q; unfold gWB
    simp only [Bool.or_eq_true, Bool.and_eq_true, beqT] at q ⊢
    omega)
set_option maxHeartbeats 1000000 in
theorem m_ground (Z : tOK T) (M : mT T mi) (hx : ∀ w, w < 22 → ml 45 w = wds.getD w 0) {x : Int32} {n : Nat} (hW : cS ro 39 182 [.ref 40, .int x] (ab_ui mi 40 0 0) ml (some (.int 1)) (ab_ui mi 40 0 0) ml) (hn : mi 40 30 = nI n) (h20 : n < 20) (g : GR T z lo hi) :
    ∃ mi' ml', cS ro 40 172 [.ref 40, .int x] mi ml (some (.int (nI z.1))) mi' ml' ∧ ∃ m0 l0, fr gRA gRB mi ml m0 l0 ∧ m0 40 2 = 0 ∧ (¬ z.1 = 0 → mi' = m0 ∧ ml' = l0) ∧ (z.1 = 0 → mi' = ab_ui (ab_ui m0 61 n x) 40 30 (nI (n + 1)) ∧ ml' = ab_ul (ab_ul l0 62 n lo) 63 n hi) := by
  obtain ⟨z1, sy, rfl⟩ := g
  refine ab_ex_q rfl rfl (fun Q hQ => vc_X12_ground_0 x mi ml ⟨_, _, _, hW, fun q => (by cases q), fun _ => ?_⟩)
  have M0 : mT T (ab_ui mi 40 0 0) := ⟨by simp [ui_app]; exact M.1, fun i hi => by rw [ui_app, if_neg (by decide)]; exact M.2 i hi⟩
  have e30 : ab_ui mi 40 0 0 40 30 = nI n := by simp [ui_app]; exact hn
  obtain ⟨a1, b1, s1, mt, e7, e8, e2, F1⟩ := s_cutAll (ro := ro) (d := 36) (ml := ml) Z M0
  have R1 := RM0 mt e7 e8 (fun w hw => by rw [F1.2 45 w rfl]; exact hx w hw)
  obtain ⟨a2, b2, s2, P⟩ := m_say (ro := ro) (d := 9) Z sy R1
  obtain ⟨a3, s3, R3, F3⟩ := m_takeSign (ro := ro) (d := 37) (ml := b2) (k := 6) (c := 59) (v := 59) Z rfl (Or.inr (Or.inr ⟨rfl, rfl⟩)) P.1
  have FM := P.2.2.tr F3
  have F0 : fr gRA gRB mi ml (ab_ui mi 40 0 0) ml := fr.rf.ui _ rfl
  have F : fr gRA gRB mi ml a3 b2 := (F0.tr (gR_cu F1)).tr (gR_mr FM)
  have a2z : a3 40 2 = 0 := (FM.1 40 2 rfl).trans e2
  have a30 : a3 40 30 = nI n := (F.1 40 30 rfl).trans hn
  rw [e30, xe_20 (by omega)]
  refine ⟨fun q => absurd q (by omega), fun _ => ⟨a1, b1, s1, a2, b2, s2, a3, b2, s3, ?_⟩⟩
  obtain ⟨j, K⟩ := R3.tk
  have hj := K.2.1
  have hz := R3.2.2.1
  have hl := srO_l (tK T (sgz T 6 z1).2)
  rw [R3.2.1, K.1, nI_clamp (by omega), K.2.2.2.1, xe_0 (by omega), xe_0 (by omega), srO_0, a30, nI_clamp (by omega)]
  have en : nI n + 1 = nI (n + 1) := nI_1 n
  rw [en]
  have in2 : vp_in (nI j) 1002 := in_of (by omega) (by decide)
  have in20 : vp_in (nI n) 20 := in_of h20 (by decide)
  refine ⟨fun c0 => ⟨in2, fun cK => ⟨fun _ => ⟨in20, in20, in20, ?_⟩, fun q => absurd c0 q⟩, fun cK => ?_⟩, fun c0 => ⟨fun q => absurd q c0, fun _ => ?_⟩⟩
  · have ez : fiz T (sgz T 6 z1) = sgz T 6 z1 := by unfold fiz; rw [if_pos cK]
    rw [ez] at hQ
    rw [(P.2.1 (sg_0 c0)).1, (P.2.1 (sg_0 c0)).2]
    exact hQ _ _ ⟨a3, b2, F, a2z, fun q => absurd c0 q, fun _ => ⟨rfl, rfl⟩⟩
  · obtain ⟨a4, g1, g2, g3⟩ := m_wrong (ro := ro) (d := 38) (v := 1) Z (k := 1) rfl (by decide) R3
    have ez : fiz T (sgz T 6 z1) = flz T 1 (sgz T 6 z1) := by unfold fiz; rw [if_neg cK]
    have nz := flz_n (T := T) (z := sgz T 6 z1) 1 (by decide)
    have hb := g2.2.2.1
    refine ⟨a4, b2, g1, ?_⟩
    rw [ez] at hQ
    rw [g2.2.1, xe_0 (by omega)]
    exact ⟨fun q => absurd q nz, fun _ => hQ _ _ ⟨a4, b2, F.tr (gR_mr g3), (g3.1 40 2 rfl).trans a2z, fun _ => ⟨rfl, rfl⟩, fun q => absurd q nz⟩⟩
  · have ez : fiz T (sgz T 6 z1) = sgz T 6 z1 := by
      unfold fiz flz
      by_cases cK : tK T (sgz T 6 z1).2 = 0
      · rw [if_pos cK]
      · rw [if_neg cK, if_neg c0]
    rw [ez] at hQ
    exact hQ _ _ ⟨a3, b2, F, a2z, fun _ => ⟨rfl, rfl⟩, fun q => absurd q c0⟩
/-- a ground more -/
theorem Rel_ground (R : Rel mi ml) {w : Nat} (hw : w < nW mi) (h20 : nR mi < 20)
    (hi : ∀ k j, ¬ (k = 21 ∧ j = nR mi) → ¬ (k = 18 ∧ j = 6) → ¬ (k = 61 ∧ j = nR mi) → ¬ (k = 40 ∧ j = 30) → mi' k j = mi k j)
    (hl : ∀ k j, ¬ ((k = 22 ∨ k = 23 ∨ k = 62 ∨ k = 63) ∧ j = nR mi) → ml' k j = ml k j)
    (e21 : mi' 21 (nR mi) = nI w) (e186 : mi' 18 6 = nI (nR mi + 1)) (e61 : mi' 61 (nR mi) = nI w) (e30 : mi' 40 30 = nI (nR mi + 1)) (e62 : ml' 62 (nR mi) = ml' 22 (nR mi)) (e63 : ml' 63 (nR mi) = ml' 23 (nR mi)) : Rel mi' ml' := by
  obtain ⟨O, OM, K⟩ := R
  generalize hn : nR mi = n at *
  have c : ∀ k, ¬ k = 21 → ¬ k = 18 → ¬ k = 61 → ¬ k = 40 → mi' k = mi k := fun k h1 h2 h3 h4 => funext (fun j => hi k j (by omega) (by omega) (by omega) (by omega))
  have cl : ∀ k, ¬ (k = 22 ∨ k = 23 ∨ k = 62 ∨ k = 63) → ml' k = ml k := fun k h => funext (fun j => hl k j (fun q => h q.1))
  have cs := fun k (h : ¬ k = 21 ∧ ¬ k = 18 ∧ ¬ k = 61 ∧ ¬ k = 40) => c k h.1 h.2.1 h.2.2.1 h.2.2.2
  have E : geq mi ml mi' ml' := ⟨cs 1 (by decide), by rw [cs 9 (by decide)], by rw [cs 12 (by decide)], cs 13 (by decide), cs 14 (by decide), cs 16 (by decide), cs 17 (by decide), by rw [cl 9 (by decide)], cl 10 (by decide), cl 11 (by decide)⟩
  have e182 : mi' 18 2 = mi 18 2 := hi 18 2 (by omega) (by omega) (by omega) (by omega)
  have nCe : nC mi' = nC mi := by unfold nC; rw [e182]
  have nRe : nR mi' = n + 1 := by unfold nR; rw [e186, nI_clamp (by omega)]
  have nTe : nT mi' = nT mi := by unfold nT; rw [cs 2 (by decide)]
  have i40 : ∀ j, ¬ j = 30 → mi' 40 j = mi 40 j := fun j h => hi 40 j (by omega) (by omega) (by omega) (by omega)
  refine ⟨?_, ?_, keepG2 K (by rw [cs 0 (by decide)]) E (fun k j q => hi k j ?_ ?_ ?_ ?_) (cl 28 (by decide)) (cl 29 (by decide)) (cl 31 (by decide)) (cl 32 (by decide))⟩
  · have ew : okW mi' = okW mi := by
      funext w; unfold okW
      rw [cs 13 (by decide), cs 14 (by decide), cs 15 (by decide), cs 16 (by decide), cs 17 (by decide), E.qnL]
    unfold okT
    rw [E.qnL, E.qnW, nCe, nRe, nTe, ew, E.2.1, E.2.2.1, E.1, e182, cs 19 (by decide), cs 20 (by decide), cs 24 (by decide), cs 37 (by decide), cs 2 (by decide), cs 3 (by decide), cs 4 (by decide)]
    refine ⟨O.1, O.2.1, O.2.2.1, ⟨e186, by omega⟩, O.w, O.c, fun g hg => ?_, O.h, O.y, O.d, O.t⟩
    by_cases q : g = n
    · rw [q]; exact ⟨w, hw, e21⟩
    · rw [hi 21 g (by omega) (by omega) (by omega) (by omega)]; exact O.g g (by omega)
  · unfold okM
    rw [E.qnL, E.qnW, nCe, nRe, nTe, E.2.1, E.2.2.1, E.1, E.qmB, e182, e186, e30, i40 12 (by decide), i40 20 (by decide), i40 34 (by decide), i40 35 (by decide), i40 69 (by decide), i40 2 (by decide), cs 2 (by decide), cs 3 (by decide), cs 13 (by decide), cs 14 (by decide), cs 15 (by decide), cs 16 (by decide), cs 17 (by decide), cs 19 (by decide), cs 20 (by decide), cs 24 (by decide), cs 37 (by decide), cs 41 (by decide), cs 46 (by decide), cs 52 (by decide), cs 53 (by decide), cs 54 (by decide), cs 57 (by decide), cs 58 (by decide), cs 59 (by decide), cs 60 (by decide), cs 78 (by decide), cs 81 (by decide), cs 82 (by decide), cl 10 (by decide), cl 11 (by decide), cl 45 (by decide), cl 47 (by decide), cl 48 (by decide), cl 55 (by decide), cl 56 (by decide)]
    refine ⟨⟨OM.s12, OM.s20, rfl, OM.s34, OM.s35, OM.s69, OM.s2⟩, OM.l, OM.w, OM.n, OM.h, fun g hg => ?_, OM.y, OM.c, OM.t, OM.x⟩
    by_cases q : g = n
    · rw [q, e61, e21, e62, e63]; exact ⟨rfl, rfl, rfl⟩
    · rw [hi 61 g (by omega) (by omega) (by omega) (by omega), hi 21 g (by omega) (by omega) (by omega) (by omega), hl 62 g (by omega), hl 22 g (by omega), hl 63 g (by omega), hl 23 g (by omega)]
      exact OM.g g (by omega)
  all_goals
    unfold gsI at q
    simp only [Bool.or_eq_true, Bool.and_eq_true, beqT] at q
    omega
theorem s_clear : cS ro (d + 1) 83 [.ref 2] mi ml none (ab_ui mi 2 2 0) ml := ab_sem_q rfl rfl (fun Q hQ => vc_X8_clear_0 mi ml hQ)
theorem re_40 (h : fr reA reB mi ml m1 l1) : (∀ k j, 40 ≤ k → m1 k j = mi k j) ∧ (∀ k j, 40 ≤ k → l1 k j = ml k j) := by
  refine ⟨fun k j hk => h.1 k j (Bool.eq_false_iff.2 (fun q => ?_)), fun k j hk => h.2 k j (Bool.eq_false_iff.2 (fun q => ?_))⟩
  · unfold reA tkI at q
    simp only [Bool.or_eq_true, Bool.and_eq_true, beqT] at q
    omega
  · unfold reB at q
    simp only [Bool.or_eq_true, Bool.and_eq_true, beqT] at q
    omega
theorem eqM_of (h : ∀ k j, 40 ≤ k → m1 k j = mi k j) (h' : ∀ k j, 40 ≤ k → l1 k j = ml k j) : eqM mi ml m1 l1 m1 l1 := ⟨fun k j q => h k j (lm_40 q), fun k j q => h' k j (by
    unfold lmL at q
    simp only [Bool.or_eq_true, beqT] at q
    omega), fun _ _ => rfl, fun _ _ => rfl⟩
theorem gr_lt (Z : tOK T) (C : cT T mi) (h : GR T z lo hi) : z.1 < 2 ^ 20 := by
  obtain ⟨z1, h1, rfl⟩ := h
  obtain ⟨m0, l0, s0, R0, F0, _⟩ := s_begin (L := 0) (xs := fun _ => 0) (d := 28) (ml := fun _ _ => 0) Z C
  obtain ⟨m2, l2, s2, P⟩ := s_say2 (L := 0) (xs := fun _ => 0) (d := 1) (ml := l0) Z h1 R0
  obtain ⟨m3, s3, R3, F3⟩ := s_ts (ro := ab_ro 0 (fun _ => 0)) (d := 29) (ml := l2) (k := 6) (v := 6) Z rfl (by decide) P.1
  obtain ⟨m4, s4, R4, F4⟩ := s_fin (L := 0) (xs := fun _ => 0) (d := 29) (ml := l2) Z R3
  exact R4.2.2.2.2
/-- the four cells that a ground writes -/
def gCI (n k j : Nat) : Bool := (Nat.beq k 21 && Nat.beq j n) || (Nat.beq k 18 && Nat.beq j 6) || (Nat.beq k 61 && Nat.beq j n) || (Nat.beq k 40 && Nat.beq j 30)
def gCL (n k j : Nat) : Bool := (Nat.beq k 22 || Nat.beq k 23 || Nat.beq k 62 || Nat.beq k 63) && Nat.beq j n
theorem gCI_n {n k j : Nat} (h : gCI n k j = false) : ¬ (k = 21 ∧ j = n) ∧ ¬ (k = 18 ∧ j = 6) ∧ ¬ (k = 61 ∧ j = n) ∧ ¬ (k = 40 ∧ j = 30) := by
  refine ⟨fun q => ?_, fun q => ?_, fun q => ?_, fun q => ?_⟩ <;>
  · have : gCI n k j = true := by
      unfold gCI
      simp only [Bool.or_eq_true, Bool.and_eq_true, beqT]
      omega
    rw [this] at h; cases h
theorem gCI_y {n k j : Nat} (h : gCI n k j = true) : (k = 21 ∧ j = n) ∨ (k = 18 ∧ j = 6) ∨ (k = 61 ∧ j = n) ∨ (k = 40 ∧ j = 30) := by
  unfold gCI at h
  simp only [Bool.or_eq_true, Bool.and_eq_true, beqT] at h
  omega
theorem gCL_n {n k j : Nat} (h : gCL n k j = false) : ¬ ((k = 22 ∨ k = 23 ∨ k = 62 ∨ k = 63) ∧ j = n) := fun q => by
  have : gCL n k j = true := by
    unfold gCL
    simp only [Bool.or_eq_true, Bool.and_eq_true, beqT]
    omega
  rw [this] at h; cases h
theorem gCL_y {n k j : Nat} (h : gCL n k j = true) : (k = 22 ∨ k = 23 ∨ k = 62 ∨ k = 63) ∧ j = n := by
  unfold gCL at h
  simp only [Bool.or_eq_true, Bool.and_eq_true, beqT] at h
  omega
set_option maxHeartbeats 2000000 in
theorem op_ground (x : Int32) : OP (ab_ro L xs) 114 172 [.int x] := by
  intro mi ml R
  obtain ⟨O, OM, K⟩ := id R
  have R0 : rP mi ml mi ml := ⟨eqP.rf mi ml, K⟩
  obtain ⟨T, Z, C, M⟩ := tape_of O OM
  have hR := O.R2
  have eR : mi 18 6 = nI (nR mi) := O.R
  by_cases c : (∃ w, w < nW mi ∧ x = nI w) ∧ nR mi < 20
  · obtain ⟨cx, c20⟩ := c
    obtain ⟨z1, lo, hi, sy⟩ := SY.ex (z := (0, 0)) Z (Nat.zero_le _)
    have g : GR T (fiz T (sgz T 6 z1)) lo hi := ⟨z1, sy, rfl⟩
    generalize fiz T (sgz T 6 z1) = z at g
    have hz := gr_lt Z C g
    generalize hn : nR mi = n at *
    obtain ⟨m1, l1, s1, v1, F1⟩ := s_ground (L := L) (xs := xs) (d := 7) (ml := ml) Z C g
    have F40 := re_40 F1
    by_cases z0 : z.1 = 0
    · have e186 : ab_ui m1 2 2 0 18 6 = nI n := by rw [ui_app, if_neg (by decide), F1.1 18 6 rfl]; exact eR
      have sc : cS (ab_ro L xs) 40 114 [.ref 0, .int x] mi ml (some (.int (nI z.1))) (ab_ui (ab_ui (ab_ui m1 2 2 0) 21 n x) 18 6 (nI (n + 1))) (ab_ul (ab_ul l1 22 n lo) 23 n hi) := by
        refine ab_sem_q rfl rfl (fun Q hQ => vc_X11_ground_0 x mi ml ⟨_, _, _, s_isWishC O R0.1 x, ?_⟩)
        rw [pI_1 cx, eR, xl_20 (by omega)]
        refine ⟨fun q => (by cases q), fun _ => ⟨fun _ => ⟨_, m1, l1, s1, _, _, s_clear, ?_⟩, fun q => absurd c20 q⟩⟩
        rw [xe_0 (by omega), (v1 z0).1, (v1 z0).2]
        refine ⟨fun _ => ⟨_, _, ab_sem_q rfl rfl (fun Q hQ => vc_X2_addGround_0 _ _ _ _ _ ?_), hQ⟩, fun q => absurd z0 q⟩
        rw [e186, xl_20 (by omega), nI_clamp (by omega)]
        have en : nI n + 1 = nI (n + 1) := nI_1 n
        rw [en]
        exact ⟨fun _ => ⟨in_of c20 (by decide), in_of c20 (by decide), in_of c20 (by decide), hQ⟩, fun q => absurd c20 q⟩
      have k40 : ∀ k j, 40 ≤ k → ab_ui (ab_ui (ab_ui m1 2 2 0) 21 n x) 18 6 (nI (n + 1)) k j = mi k j := fun k j hk => by
        rw [ui_app, if_neg (by omega), ui_app, if_neg (by omega), ui_app, if_neg (by omega)]; exact F40.1 k j hk
      have l40 : ∀ k j, 40 ≤ k → ab_ul (ab_ul l1 22 n lo) 23 n hi k j = ml k j := fun k j hk => by
        rw [ul_app, if_neg (by omega), ul_app, if_neg (by omega)]; exact F40.2 k j hk
      have H := eqM_of k40 l40
      have hW := s_misWish (ro := ab_ro L xs) (d := 38) O OM (H.t 0) x
      rw [pI_1 cx] at hW
      obtain ⟨m5, l5, s5, m0, l0, F, e2, _, hs⟩ := m_ground (ro := ab_ro L xs) Z ⟨(k40 40 2 (by decide)).trans M.1, fun i hi => (k40 41 i (by decide)).trans (M.2 i hi)⟩ (fun w hw => by rw [l40 45 w (by decide)]; exact OM.x w hw) hW ((k40 40 30 (by decide)).trans (OM.s30.trans eR)) c20 g
      obtain ⟨rfl, rfl⟩ := hs z0
      refine ⟨_, _, _, _, _, sc, s5, ?_⟩
      obtain ⟨w, hw, rfl⟩ := cx
      -- the memory but for the ground
      have A : ∀ k j, gCI n k j = false → ab_ui (ab_ui m0 61 n (nI w)) 40 30 (nI (n + 1)) k j = m0 k j := fun k j q => by
        have q' := gCI_n q
        rw [ui_app]
        by_cases e : k = 40
        · rw [if_pos e, if_neg (by omega), ui_app, if_neg (by omega)]
        · rw [if_neg e, ui_app]
          by_cases e' : k = 61
          · rw [if_pos e', if_neg (by omega)]
          · rw [if_neg e']
      have B : ∀ k j, gCI n k j = false → ab_ui (ab_ui (ab_ui m1 2 2 0) 21 n (nI w)) 18 6 (nI (n + 1)) k j = ab_ui m1 2 2 0 k j := fun k j q => by
        have q' := gCI_n q
        rw [ui_app]
        by_cases e : k = 18
        · rw [if_pos e, if_neg (by omega), ui_app, if_neg (by omega)]
        · rw [if_neg e, ui_app]
          by_cases e' : k = 21
          · rw [if_pos e', if_neg (by omega)]
          · rw [if_neg e']
      have AL : ∀ k j, gCL n k j = false → ab_ul (ab_ul l0 62 n lo) 63 n hi k j = l0 k j := fun k j q => by
        have q' := gCL_n q
        rw [ul_app]
        by_cases e : k = 63
        · rw [if_pos e, if_neg (by omega), ul_app, if_neg (by omega)]
        · rw [if_neg e, ul_app]
          by_cases e' : k = 62
          · rw [if_pos e', if_neg (by omega)]
          · rw [if_neg e']
      have BL : ∀ k j, gCL n k j = false → ab_ul (ab_ul l1 22 n lo) 23 n hi k j = l1 k j := fun k j q => by
        have q' := gCL_n q
        rw [ul_app]
        by_cases e : k = 23
        · rw [if_pos e, if_neg (by omega), ul_app, if_neg (by omega)]
        · rw [if_neg e, ul_app]
          by_cases e' : k = 22
          · rw [if_pos e', if_neg (by omega)]
          · rw [if_neg e']
      have FA : fr gWA gWB mi ml (ab_ui m1 2 2 0) l1 := (gW_re F1).ui _ rfl
      have V : Rel (fun k j => if gCI n k j = true then mi k j else m0 k j) (fun k j => if gCL n k j = true then ml k j else l0 k j) := by
        refine Rel_tape R ⟨fun k j q => ?_, fun k j q => ?_⟩ ?_ ?_
        · show (if gCI n k j = true then mi k j else m0 k j) = mi k j
          by_cases e : gCI n k j = true
          · rw [if_pos e]
          · rw [if_neg e, (gW_gR F).1 k j q, B k j (Bool.eq_false_iff.2 e), FA.1 k j q]
        · show (if gCL n k j = true then ml k j else l0 k j) = ml k j
          by_cases e : gCL n k j = true
          · rw [if_pos e]
          · rw [if_neg e, (gW_gR F).2 k j q, BL k j (Bool.eq_false_iff.2 e), FA.2 k j q]
        · show m0 2 2 = 0
          rw [F.1 2 2 rfl]; simp [ui_app]
        · exact e2
      have vR : nR (fun k j => if gCI n k j = true then mi k j else m0 k j) = n := hn
      have vW : nW (fun k j => if gCI n k j = true then mi k j else m0 k j) = nW mi := by
        show (m0 12 5).toNatClampNeg = (mi 12 5).toNatClampNeg
        rw [F.1 12 5 rfl]
        show (m1 12 5).toNatClampNeg = _
        rw [F1.1 12 5 rfl]
      have yI : ∀ k j, gCI n k j = true → (k = 21 ∧ j = n) ∨ (k = 18 ∧ j = 6) ∨ (k = 61 ∧ j = n) ∨ (k = 40 ∧ j = 30) := fun k j => gCI_y
      have m21 : m0 21 n = nI w := by rw [F.1 21 n rfl]; simp [ui_app]
      have m18 : m0 18 6 = nI (n + 1) := by rw [F.1 18 6 rfl]; simp [ui_app]
      have m22 : l0 22 n = lo := by rw [F.2 22 n rfl]; simp [ul_app]
      have m23 : l0 23 n = hi := by rw [F.2 23 n rfl]; simp [ul_app]
      refine Rel_ground V (w := w) (by rw [vW]; exact hw) (by rw [vR]; exact c20) (fun k j q1 q2 q3 q4 => ?_) (fun k j q => ?_) ?_ ?_ ?_ ?_ ?_ ?_
      · rw [vR] at q1 q3
        have e : gCI n k j = false := Bool.eq_false_iff.2 (fun h => by have := gCI_y h; omega)
        show _ = (if gCI n k j = true then mi k j else m0 k j)
        rw [A k j e, if_neg (by rw [e]; decide)]
      · rw [vR] at q
        have e : gCL n k j = false := Bool.eq_false_iff.2 (fun h => q (gCL_y h))
        show _ = (if gCL n k j = true then ml k j else l0 k j)
        rw [AL k j e, if_neg (by rw [e]; decide)]
      · rw [vR]; simp [ui_app]; exact m21
      · rw [vR]; simp [ui_app]; exact m18
      · rw [vR]; simp [ui_app]
      · rw [vR]; simp [ui_app]
      · rw [vR]; simp [ul_app]; exact m22.symm
      · rw [vR]; simp [ul_app]; exact m23.symm
    · have sc : cS (ab_ro L xs) 40 114 [.ref 0, .int x] mi ml (some (.int (nI z.1))) (ab_ui m1 2 2 0) l1 := by
        refine ab_sem_q rfl rfl (fun Q hQ => vc_X11_ground_0 x mi ml ⟨_, _, _, s_isWishC O R0.1 x, ?_⟩)
        rw [pI_1 cx, eR, xl_20 (by omega)]
        refine ⟨fun q => (by cases q), fun _ => ⟨fun _ => ⟨_, m1, l1, s1, _, _, s_clear, ?_⟩, fun q => absurd c20 q⟩⟩
        rw [xe_0 (by omega)]
        exact ⟨fun q => absurd q z0, fun _ => hQ⟩
      have k40 : ∀ k j, 40 ≤ k → ab_ui m1 2 2 0 k j = mi k j := fun k j hk => by
        rw [ui_app, if_neg (by omega)]; exact F40.1 k j hk
      have H := eqM_of k40 F40.2
      have hW := s_misWish (ro := ab_ro L xs) (d := 38) O OM (H.t 0) x
      rw [pI_1 cx] at hW
      obtain ⟨m5, l5, s5, m0, l0, F, e2, hf, _⟩ := m_ground (ro := ab_ro L xs) Z ⟨(k40 40 2 (by decide)).trans M.1, fun i hi => (k40 41 i (by decide)).trans (M.2 i hi)⟩ (fun w hw => by rw [F40.2 45 w (by decide)]; exact OM.x w hw) hW ((k40 40 30 (by decide)).trans (OM.s30.trans eR)) c20 g
      obtain ⟨rfl, rfl⟩ := hf z0
      exact ⟨_, _, _, _, _, sc, s5, Rel_tape R (((gW_re F1).ui _ rfl).tr (gW_gR F)) (by rw [F.1 2 2 rfl]; simp [ui_app]) e2⟩
  · have sc : cS (ab_ro L xs) 40 114 [.ref 0, .int x] mi ml (some (.int (-1))) (ab_ui mi 2 2 0) ml := by
      refine ab_sem_q rfl rfl (fun Q hQ => vc_X11_ground_0 x mi ml ⟨_, _, _, s_isWishC O R0.1 x, ?_⟩)
      rw [eR, xl_20 (by omega), (propext pI_e0 : (pI (∃ w, w < nW mi ∧ x = nI w) = 0) = _)]
      exact ⟨fun _ => ⟨_, _, s_clear, hQ⟩, fun c1 => ⟨fun c2 => absurd ⟨Classical.not_not.1 c1, c2⟩ c, fun _ => ⟨_, _, s_clear, hQ⟩⟩⟩
    have k40 : ∀ k j, 40 ≤ k → ab_ui mi 2 2 0 k j = mi k j := fun k j hk => by rw [ui_app, if_neg (by omega)]
    have H := eqM_of k40 (fun k j (_ : 40 ≤ k) => (rfl : ml k j = ml k j))
    have s2 : cS (ab_ro L xs) 40 172 [.ref 40, .int x] (ab_ui mi 2 2 0) ml (some (.int (-1))) (ab_ui (ab_ui (ab_ui mi 2 2 0) 40 0 0) 40 2 0) ml := by
      refine ab_sem_q rfl rfl (fun Q hQ => vc_X12_ground_0 x _ ml ⟨_, _, _, s_misWish O OM (H.t 0) x, ?_⟩)
      have e30 : ab_ui (ab_ui mi 2 2 0) 40 0 0 40 30 = nI (nR mi) := OM.s30.trans eR
      rw [e30, xe_20 (by omega), (propext pI_e0 : (pI (∃ w, w < nW mi ∧ x = nI w) = 0) = _)]
      exact ⟨fun _ => hQ, fun c1 => ⟨fun _ => hQ, fun c2 => absurd ⟨Classical.not_not.1 c1, by omega⟩ c⟩⟩
    exact ⟨_, _, _, _, _, sc, s2, Rel_tape R (((fr.rf.ui _ rfl).ui _ rfl).ui _ rfl) (by simp [ui_app]) (by simp [ui_app])⟩
end GD
