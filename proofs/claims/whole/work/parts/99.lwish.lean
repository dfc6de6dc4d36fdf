/-! Wishes: the call that is taken. -/
theorem ui_o {m : cM1} {a b k j : Nat} {v : Int32} (h : ¬ (k = a ∧ j = b)) : ab_ui m a b v k j = m k j := by
  rw [ui_app]
  by_cases e : k = a
  · rw [if_pos e, if_neg (fun e' => h ⟨e, e'⟩)]
  · rw [if_neg e]
theorem ul_o {m : cM2} {a b k j : Nat} {v : Int64} (h : ¬ (k = a ∧ j = b)) : ab_ul m a b v k j = m k j := by
  rw [ul_app]
  by_cases e : k = a
  · rw [if_pos e, if_neg (fun e' => h ⟨e, e'⟩)]
  · rw [if_neg e]
/-- the wish's cells on the class's side -/
def WI (k : Nat) (v t x y : Int32) (mi : cM1) : cM1 := ab_ui (ab_ui (ab_ui (ab_ui (ab_ui (ab_ui (ab_ui mi 13 k v) 14 k t) 15 k x) 16 k y) 17 k (-1)) 12 5 (nI (k + 1))) 0 12 1
theorem WI_o {n k j : Nat} {v t x y : Int32} {mi : cM1} (h : ¬ (k = 0 ∧ j = 12 ∨ k = 12 ∧ j = 5 ∨ 13 ≤ k ∧ k ≤ 17 ∧ j = n)) : WI n v t x y mi k j = mi k j := by
  unfold WI
  rw [ui_o (by omega), ui_o (by omega), ui_o (by omega), ui_o (by omega), ui_o (by omega), ui_o (by omega), ui_o (by omega)]
theorem KI_o {n k j : Nat} {v t x : Int32} {mi : cM1} (h : ¬ (k = 40 ∧ j = 20 ∨ (52 ≤ k ∧ k ≤ 54 ∨ 57 ≤ k ∧ k ≤ 59) ∧ j = n)) : KI x v t n mi k j = mi k j := by
  unfold KI
  rw [ui_o (by omega), ui_o (by omega), ui_o (by omega), ui_o (by omega), ui_o (by omega), ui_o (by omega), ui_o (by omega)]
theorem KL_o {n k j : Nat} {ml : cM2} (h : ¬ ((k = 55 ∨ k = 56) ∧ j = n)) : KL n ml k j = ml k j := by
  unfold KL
  rw [ul_o (by omega), ul_o (by omega)]
section WQ
variable {L : Nat} {xs : Nat → Int32} {mi m : cM1} {ml l : cM2}
/-- a wish more -/
theorem Rel_wish (R : Rel mi ml) {n v : Nat} {x t : Int32} (hn : nW mi = n) (h30 : n < 30) (hx : ∃ p, p < 100 ∧ x = nI p) (hv : v < 4) (ht : (v = 3 ∧ t = -1) ∨ (¬ v = 3 ∧ ∃ a, a < nL mi ∧ t = nI a))
    (hi : ∀ k j, gWA k j = false → ¬ (k = 0 ∧ j = 12 ∨ k = 12 ∧ j = 5 ∨ k = 40 ∧ j = 20 ∨ (13 ≤ k ∧ k ≤ 17 ∨ 52 ≤ k ∧ k ≤ 54 ∨ 57 ≤ k ∧ k ≤ 59) ∧ j = n) → m k j = mi k j)
    (hl : ∀ k j, gWB k j = false → ¬ (k = 9 ∧ j = 2 ∨ k = 10 ∨ k = 11 ∨ (k = 55 ∨ k = 56) ∧ j = n) → l k j = ml k j)
    (hp : ∀ p, ¬ p = 12 + n → l 10 p = ml 10 p ∧ l 11 p = ml 11 p ∧ mB l p = mB ml p)
    (e22 : m 2 2 = 0) (e402 : m 40 2 = 0) (e012 : m 0 12 = 1) (e125 : m 12 5 = nI (n + 1)) (e4020 : m 40 20 = nI (n + 1))
    (e13 : m 13 n = nI v) (e14 : m 14 n = t) (e15 : m 15 n = x) (e16 : m 16 n = mi 1 0) (e17 : m 17 n = -1)
    (e52 : m 52 n = nI v) (e53 : m 53 n = t) (e57 : m 57 n = x) (e58 : m 58 n = mi 1 0) (e59 : m 59 n = -1)
    (hf : 2 ≤ v → m 54 n = bI (!mB l (12 + n)) ∧ l 55 n = l 10 (12 + n) ∧ l 56 n = l 11 (12 + n)) : Rel m l := by
  obtain ⟨O, OM, K⟩ := R
  have c : ∀ k, (∀ j, gWA k j = false) → (¬ k = 0 ∧ ¬ k = 12 ∧ ¬ k = 40 ∧ ¬ (13 ≤ k ∧ k ≤ 17 ∨ 52 ≤ k ∧ k ≤ 54 ∨ 57 ≤ k ∧ k ≤ 59)) → m k = mi k := fun k h1 h2 => funext (fun j => hi k j (h1 j) (by omega))
  have cl : ∀ k, (∀ j, gWB k j = false) → (¬ k = 9 ∧ ¬ k = 10 ∧ ¬ k = 11 ∧ ¬ k = 55 ∧ ¬ k = 56) → l k = ml k := fun k h1 h2 => funext (fun j => hl k j (h1 j) (by omega))
  have f40 : ∀ j, gWA 40 j = false → ¬ j = 20 → m 40 j = mi 40 j := fun j h1 h2 => hi 40 j h1 (by omega)
  have nLe : nL m = nL mi := by unfold nL; rw [c 9 (fun _ => rfl) (by decide)]
  have nWe : nW m = n + 1 := by unfold nW; rw [e125, nI_clamp (by omega)]
  have nRe : nR m = nR mi := by unfold nR; rw [c 18 (fun _ => rfl) (by decide)]
  have nCe : nC m = nC mi := by unfold nC; rw [c 18 (fun _ => rfl) (by decide)]
  have nTe : nT m = 0 := by unfold nT; rw [e22]; rfl
  have o : ∀ w, ¬ w = n → m 13 w = mi 13 w ∧ m 14 w = mi 14 w ∧ m 15 w = mi 15 w ∧ m 16 w = mi 16 w ∧ m 17 w = mi 17 w := fun w hw => ⟨hi 13 w rfl (by omega), hi 14 w rfl (by omega), hi 15 w rfl (by omega), hi 16 w rfl (by omega), hi 17 w rfl (by omega)⟩
  have o5 : ∀ w, ¬ w = n → m 52 w = mi 52 w ∧ m 53 w = mi 53 w ∧ m 54 w = mi 54 w ∧ m 57 w = mi 57 w ∧ m 58 w = mi 58 w ∧ m 59 w = mi 59 w := fun w hw => ⟨hi 52 w rfl (by omega), hi 53 w rfl (by omega), hi 54 w rfl (by omega), hi 57 w rfl (by omega), hi 58 w rfl (by omega), hi 59 w rfl (by omega)⟩
  refine ⟨?_, ?_, fun q => absurd q (by rw [e012]; decide)⟩
  · unfold okT
    rw [nLe, nWe, nRe, nTe, nCe, e125, e22, c 9 (fun _ => rfl) (by decide), c 18 (fun _ => rfl) (by decide), c 19 (fun _ => rfl) (by decide), c 20 (fun _ => rfl) (by decide), c 21 (fun _ => rfl) (by decide), c 24 (fun _ => rfl) (by decide), c 37 (fun _ => rfl) (by decide), c 1 (fun _ => rfl) (by decide)]
    refine ⟨O.1, ⟨rfl, by omega⟩, O.2.2.1, O.2.2.2.1, fun w hw => ?_, O.c, fun g hg => ?_, O.h, O.y, O.d, rfl, by decide, fun i hi => absurd hi (Nat.not_lt_zero i)⟩
    · unfold okW
      by_cases e : w = n
      · obtain ⟨dd, hd, ed, _⟩ := O.d
        rw [e, e13, e14, e15, e16, e17, nLe, xe_3 (by omega)]
        exact ⟨⟨v, hv, rfl⟩, ht, hx, ⟨dd, hd, ed⟩, Or.inl rfl⟩
      · obtain ⟨q1, q2, q3, q4, q5⟩ := o w e
        rw [q1, q2, q3, q4, q5, nLe]
        exact O.w w (by omega)
    · obtain ⟨w, hw, ew⟩ := O.g g hg
      exact ⟨w, by omega, ew⟩
  · unfold okM
    rw [nLe, nWe, nRe, nTe, nCe, e125, e22, e402, e4020, f40 12 rfl (by decide), f40 30 rfl (by decide), f40 34 rfl (by decide), f40 35 rfl (by decide), f40 69 rfl (by decide), c 9 (fun _ => rfl) (by decide), c 18 (fun _ => rfl) (by decide), c 1 (fun _ => rfl) (by decide), c 24 (fun _ => rfl) (by decide), c 19 (fun _ => rfl) (by decide), c 20 (fun _ => rfl) (by decide), c 21 (fun _ => rfl) (by decide), c 37 (fun _ => rfl) (by decide), c 46 (fun _ => rfl) (by decide), c 60 (fun _ => rfl) (by decide), c 61 (fun _ => rfl) (by decide), c 78 (fun _ => rfl) (by decide), c 81 (fun _ => rfl) (by decide), c 82 (fun _ => rfl) (by decide), cl 47 (fun _ => rfl) (by decide), cl 48 (fun _ => rfl) (by decide), cl 22 (fun _ => rfl) (by decide), cl 23 (fun _ => rfl) (by decide), cl 62 (fun _ => rfl) (by decide), cl 63 (fun _ => rfl) (by decide), cl 45 (fun _ => rfl) (by decide)]
    have hL := O.L2
    refine ⟨⟨OM.s12, rfl, OM.s30, OM.s34, OM.s35, OM.s69, rfl⟩, fun a ha => ?_, fun w hw => ?_, fun w hw h23 => ?_, OM.h, OM.g, OM.y, OM.c, fun i hi => absurd hi (Nat.not_lt_zero i), OM.x⟩
    · obtain ⟨q1, q2, q3⟩ := hp a (by omega)
      rw [q1, q2, q3]; exact OM.l a ha
    · by_cases e : w = n
      · rw [e, e52, e53, e57, e58, e59, e13, e14, e15, e16, e17]; exact ⟨rfl, rfl, rfl, rfl, rfl⟩
      · obtain ⟨q1, q2, q3, q4, q5⟩ := o w e
        obtain ⟨r1, r2, r3, r4, r5, r6⟩ := o5 w e
        rw [q1, q2, q3, q4, q5, r1, r2, r4, r5, r6]
        exact OM.w w (by omega)
    · by_cases e : w = n
      · rw [e, e13, xe_2 (by omega), xe_3 (by omega)] at h23
        rw [e]; exact hf (by omega)
      · rw [(o w e).1] at h23
        obtain ⟨q1, q2, q3⟩ := hp (12 + w) (by omega)
        rw [q1, q2, q3, (o5 w e).2.2.1, hl 55 w rfl (by omega), hl 56 w rfl (by omega)]
        exact OM.n w (by omega) h23
set_option maxHeartbeats 2000000 in
theorem op_wish (x : Int32) : OP (ab_ro L xs) 107 171 [.int x] := by
  intro mi ml R
  by_cases c : (∃ p, p < 99 + 1 ∧ x = nI p) ∧ nW mi < 30
  · obtain ⟨O, OM, K⟩ := id R
    obtain ⟨cx, c30⟩ := c
    obtain ⟨T, Z, C, M⟩ := tape_of O OM
    have hL := O.L2
    obtain ⟨z, b, lo, hi, g⟩ := WR.ex Z (nL mi)
    have hz := wr_lt Z C (show nL mi < 100 by omega) g
    obtain ⟨m1, l1, s1, we, F1⟩ := s_readWish (L := L) (xs := xs) (d := 7) (ml := ml) Z C (show nL mi < 100 by omega) g
    have F40 := re_40 F1
    obtain ⟨c1, c2⟩ := (rg2 (n := 100) (by decide)).2 cx
    have hW1 : ∀ (m : cM1) (l : cM2), cS (ab_ro L xs) 39 178 [.int x, .int 0, .int 99] m l (some (.int 1)) m l := fun m l => by
      have := s_withinN (ro := ab_ro L xs) (d := 38) (mi := m) (ml := l) x 99 (by decide)
      rw [pI_1 cx] at this; exact this
    by_cases z0 : z.1 = 0
    · obtain ⟨w5, w6, w7⟩ := we z0
      obtain ⟨vv, vt⟩ := wr_t g z0
      obtain ⟨l2, s2, P⟩ := s_putv (ro := ab_ro L xs) (d := 38) (mi := ab_ui m1 2 2 0) (ml := l1) (k := 12 + nW mi) (by omega) (l1 5 2) (l1 5 3) (m1 5 4)
      have e125 : ab_ui m1 2 2 0 12 5 = nI (nW mi) := by rw [ui_o (by omega), F1.1 12 5 rfl]; exact O.W
      have e10 : ab_ui m1 2 2 0 1 0 = mi 1 0 := by rw [ui_o (by omega), F1.1 1 0 rfl]
      have s3 := s_add (ro := ab_ro L xs) (d := 38) (mi := ab_ui m1 2 2 0) (ml := l2) c30 e125 (ab_ui m1 2 2 0 5 5) (ab_ui m1 2 2 0 5 6) x (ab_ui m1 2 2 0 1 0)
      have sc : cS (ab_ro L xs) 40 107 [.ref 0, .int x] mi ml (some (.int (nI z.1))) (WI (nW mi) (ab_ui m1 2 2 0 5 5) (ab_ui m1 2 2 0 5 6) x (ab_ui m1 2 2 0 1 0) (ab_ui m1 2 2 0)) l2 := by
        refine ab_sem_q rfl rfl (fun Q hQ => vc_X11_wish_0 x mi ml ?_)
        rw [O.W, O.L, xl_30 (by omega)]
        refine ⟨fun q => absurd q c1, fun _ => ⟨fun _ => ⟨fun _ => ⟨_, m1, l1, s1, _, _, s_clear, ?_⟩, fun q => absurd c30 q⟩, fun q => absurd c2 q⟩⟩
        rw [xe_0 (by omega), e125, n12]
        exact ⟨fun _ => ⟨_, _, s2, _, _, s3, hQ⟩, fun q => absurd z0 q⟩
      have e5 : ab_ui m1 2 2 0 5 5 = nI (vb T 0) := by rw [ui_o (by omega)]; exact w5
      have e6 : ab_ui m1 2 2 0 5 6 = (if vb T 0 = 3 then -1 else nI (nmr T (nL mi) (0, tE T 0))) := by rw [ui_o (by omega)]; exact w6
      rw [e5, e6, e10] at sc
      generalize ht : (if vb T 0 = 3 then (-1 : Int32) else nI (nmr T (nL mi) (0, tE T 0))) = t at *
      have g40 : ∀ k j, 40 ≤ k → WI (nW mi) (nI (vb T 0)) t x (mi 1 0) (ab_ui m1 2 2 0) k j = mi k j := fun k j hk => by
        rw [WI_o (by omega), ui_o (by omega)]; exact F40.1 k j hk
      have l40 : ∀ k j, 40 ≤ k → l2 k j = ml k j := fun k j hk => by
        rw [P.2.2 k j (by omega) (by omega) (by omega)]; exact F40.2 k j hk
      obtain ⟨m5, l5, s5, m0, l0, F, e2, _, hs⟩ := m_wish (ro := ab_ro L xs) (mi := WI (nW mi) (nI (vb T 0)) t x (mi 1 0) (ab_ui m1 2 2 0)) (ml := l2) (k := nW mi) (n := nL mi) Z ⟨(g40 40 2 (by decide)).trans M.1, fun i hi => (g40 41 i (by decide)).trans (M.2 i hi)⟩ (fun w hw => by rw [l40 45 w (by decide)]; exact OM.x w hw) (hW1 _ _) ((g40 40 20 (by decide)).trans (OM.s20.trans O.W)) c30 ((g40 40 12 (by decide)).trans (OM.s12.trans O.L)) hL g
      obtain ⟨q1, q2, hr⟩ := hs z0
      rw [ht] at q1
      subst q1 q2
      refine ⟨_, _, _, _, _, sc, s5, ?_⟩
      have F0 : ∀ k j, gRA k j = false → m0 k j = WI (nW mi) (nI (vb T 0)) t x (mi 1 0) (ab_ui m1 2 2 0) k j := F.1
      have FW := gW_gR F
      have FE := gW_re F1
      have e34 : m0 40 34 = mi 1 0 := by rw [F.1 40 34 rfl, g40 40 34 (by decide)]; exact OM.s34
      have a1 : ∀ k j, gRA k j = false → ¬ (k = 40 ∧ j = 20 ∨ (52 ≤ k ∧ k ≤ 54 ∨ 57 ≤ k ∧ k ≤ 59) ∧ j = nW mi) → KI x (nI (vb T 0)) t (nW mi) m0 k j = WI (nW mi) (nI (vb T 0)) t x (mi 1 0) (ab_ui m1 2 2 0) k j := fun k j q1 q2 => by rw [KI_o q2]; exact F.1 k j q1
      refine Rel_wish R (n := nW mi) (v := vb T 0) (x := x) (t := t) rfl c30 cx vv ?_ (fun k j q1 q2 => ?_) (fun k j q1 q2 => ?_) (fun p hp => ?_) ?_ ?_ ?_ ?_ ?_ ?_ ?_ ?_ ?_ ?_ ?_ ?_ ?_ ?_ ?_ (fun h2 => ?_)
      · by_cases c3 : vb T 0 = 3
        · rw [if_pos c3] at ht; exact Or.inl ⟨c3, ht.symm⟩
        · rw [if_neg c3] at ht; exact Or.inr ⟨c3, _, vt c3, ht.symm⟩
      · rw [KI_o (by omega), FW.1 k j q1, WI_o (by omega), ui_o (fun h => by rw [h.1] at q1; cases q1)]
        exact FE.1 k j q1
      · rw [KL_o (by omega), FW.2 k j q1, P.2.2 k j (by omega) (by omega) (by omega)]
        exact FE.2 k j q1
      · have u := P.2.1 p hp
        have e9 : KL (nW mi) l0 9 2 = l2 9 2 := by rw [KL_o (by omega), F.2 9 2 rfl]
        have e9' : mB (KL (nW mi) l0) p = mB l2 p := by unfold mB; rw [e9]
        have e1 : mB l1 p = mB ml p := by unfold mB; rw [F1.2 9 2 rfl]
        rw [KL_o (by omega), KL_o (by omega), e9', F.2 10 p rfl, F.2 11 p rfl, u.1, u.2.1, u.2.2, e1, F1.2 10 p rfl, F1.2 11 p rfl]
        exact ⟨rfl, rfl, rfl⟩
      · rw [a1 2 2 rfl (by omega), WI_o (by omega)]; simp [ui_app]
      · rw [KI_o (by omega)]; exact e2
      · rw [a1 0 12 rfl (by omega)]; unfold WI; simp [ui_app]
      · rw [a1 12 5 rfl (by omega)]; unfold WI; simp [ui_app]
      · unfold KI; simp [ui_app]
      · rw [a1 13 _ rfl (by omega)]; unfold WI; simp [ui_app]
      · rw [a1 14 _ rfl (by omega)]; unfold WI; simp [ui_app]
      · rw [a1 15 _ rfl (by omega)]; unfold WI; simp [ui_app]
      · rw [a1 16 _ rfl (by omega)]; unfold WI; simp [ui_app]
      · rw [a1 17 _ rfl (by omega)]; unfold WI; simp [ui_app]
      · unfold KI; simp [ui_app]
      · unfold KI; simp [ui_app]
      · unfold KI; simp [ui_app]
      · unfold KI; simp [ui_app]; exact e34
      · unfold KI; simp [ui_app]
      · obtain ⟨r1, r2, r3⟩ := hr h2
        obtain ⟨w1, w2, w3⟩ := w7 h2
        have e54 : KI x (nI (vb T 0)) t (nW mi) m0 54 (nW mi) = vp_nar .boolean (m0 49 0) := by unfold KI; simp [ui_app]
        have e55 : KL (nW mi) l0 55 (nW mi) = l0 50 0 := by unfold KL; simp [ul_app]
        have e56 : KL (nW mi) l0 56 (nW mi) = l0 51 0 := by unfold KL; simp [ul_app]
        have e9 : KL (nW mi) l0 9 2 = l2 9 2 := by rw [KL_o (by omega), F.2 9 2 rfl]
        have e9' : mB (KL (nW mi) l0) (12 + nW mi) = mB l2 (12 + nW mi) := by unfold mB; rw [e9]
        rw [e54, e55, e56, e9', KL_o (by omega), KL_o (by omega), F.2 10 _ rfl, F.2 11 _ rfl, P.1.1, P.1.2.1, P.1.2.2, r1, r2, r3, nar_b, w1, w2, w3]
        refine ⟨?_, rfl, rfl⟩
        cases b <;> rfl
    · have sc : cS (ab_ro L xs) 40 107 [.ref 0, .int x] mi ml (some (.int (nI z.1))) (ab_ui m1 2 2 0) l1 := by
        refine ab_sem_q rfl rfl (fun Q hQ => vc_X11_wish_0 x mi ml ?_)
        rw [O.W, O.L, xl_30 (by omega)]
        refine ⟨fun q => absurd q c1, fun _ => ⟨fun _ => ⟨fun _ => ⟨_, m1, l1, s1, _, _, s_clear, ?_⟩, fun q => absurd c30 q⟩, fun q => absurd c2 q⟩⟩
        rw [xe_0 (by omega)]
        exact ⟨fun q => absurd q z0, fun _ => hQ⟩
      have k40 : ∀ k j, 40 ≤ k → ab_ui m1 2 2 0 k j = mi k j := fun k j hk => by
        rw [ui_o (by omega)]; exact F40.1 k j hk
      obtain ⟨m5, l5, s5, m0, l0, F, e2, hf, _⟩ := m_wish (ro := ab_ro L xs) (mi := ab_ui m1 2 2 0) (ml := l1) (k := nW mi) (n := nL mi) (x := x) Z ⟨(k40 40 2 (by decide)).trans M.1, fun i hi => (k40 41 i (by decide)).trans (M.2 i hi)⟩ (fun w hw => by rw [F40.2 45 w (by decide)]; exact OM.x w hw) (hW1 _ _) ((k40 40 20 (by decide)).trans (OM.s20.trans O.W)) c30 ((k40 40 12 (by decide)).trans (OM.s12.trans O.L)) hL g
      obtain ⟨rfl, rfl⟩ := hf z0
      exact ⟨_, _, _, _, _, sc, s5, Rel_tape R (((gW_re F1).ui _ rfl).tr (gW_gR F)) (by rw [F.1 2 2 rfl]; simp [ui_app]) e2⟩
  · exact w_no R c
end WQ
