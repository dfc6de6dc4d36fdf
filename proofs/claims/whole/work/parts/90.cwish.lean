/-! A wish read, the class's side. -/
section CV
variable {L : Nat} {xs : Nat → Int32} {d : Nat} {mi m1 m2 : cM1} {ml l1 l2 : cM2} {T : tSt} {z z1 z2 : Nat × Nat} {lo hi : Int64} {b : Bool}
def vI (v : Nat) : Int32 := if v < 4 then nI v else -1
theorem s_verb (Z : tOK T) (R : RS T z mi) : cS (ab_ro L xs) (d + 6) 68 [.ref 5] mi ml (some (.int (vI (vb T z.2)))) mi ml := by
  refine ab_sem_q rfl rfl (fun Q hQ => vc_X7_verbHere_0 mi ml ?_)
  have y : ∀ {P : Prop}, ¬ pI P = 0 → pB P = true := fun h => pB_iff.2 (Classical.not_not.1 (fun q => h (pI_e0.2 q)))
  have n : ∀ {P : Prop}, pI P = 0 → ¬ pB P = true := fun h q => pI_e0.1 h (pB_iff.1 q)
  have k : ∀ v r, vb T z.2 = v → vI v = r → Q (some (.int r)) (ab_G mi ml) := fun v r e1 e2 => by rw [e1, e2] at hQ; exact hQ
  refine ⟨_, _, _, s_wd3 Z R.1 R.2.2.1 R.2.1, ⟨fun c3 => ⟨_, _, _, s_wd4 Z R.1 R.2.2.1 R.2.1, ⟨fun c4 => ⟨_, _, _, s_wd5 Z R.1 R.2.2.1 R.2.1, ⟨fun c5 => ⟨_, _, _, s_wd6 Z R.1 R.2.2.1 R.2.1, ⟨fun c6 => k 4 _ ?_ rfl, fun c6 => k 3 _ ?_ rfl⟩⟩, fun c5 => k 2 _ ?_ rfl⟩⟩, fun c4 => k 1 _ ?_ rfl⟩⟩, fun c3 => k 0 _ ?_ rfl⟩⟩
  · unfold vb; rw [if_neg (n c3), if_neg (n c4), if_neg (n c5), if_neg (n c6)]
  · unfold vb; rw [if_neg (n c3), if_neg (n c4), if_neg (n c5), if_pos (y c6)]
  · unfold vb; rw [if_neg (n c3), if_neg (n c4), if_pos (y c5)]
  · unfold vb; rw [if_neg (n c3), if_pos (y c4)]
  · unfold vb; rw [if_pos (y c3)]
theorem WR.ex (Z : tOK T) (n : Nat) : ∃ z b lo hi, WR T n z b lo hi := by
  have h0 : tE T 0 ≤ T.1 := tE_le T (Nat.zero_le _)
  have h := vb_lt T 0
  by_cases c4 : vb T 0 = 4
  · exact ⟨_, false, 0, 0, fun _ => rfl, fun q => absurd q (by omega), fun q => absurd q (by omega), fun q => absurd q (by omega)⟩
  · by_cases c3 : vb T 0 = 3
    · obtain ⟨z1, b, lo, hi, h⟩ := LN.ex (z := (0, tE T 0)) Z h0
      exact ⟨_, b, lo, hi, fun q => absurd q (by omega), fun _ => ⟨z1, h, rfl⟩, fun q => absurd q (by omega), fun q => absurd q (by omega)⟩
    · by_cases c2 : vb T 0 = 2
      · obtain ⟨z1, b, lo, hi, h⟩ := LN.ex (z := wdz T 2 (nmz T n (0, tE T 0))) Z (((mo_nm Z n (z := (0, tE T 0)) h0).tr (mo_wd Z 2)).2)
        exact ⟨_, b, lo, hi, fun q => absurd q (by omega), fun q => absurd q (by omega), fun _ => ⟨z1, h, rfl⟩, fun q => absurd q (by omega)⟩
      · exact ⟨_, false, 0, 0, fun q => absurd q (by omega), fun q => absurd q (by omega), fun q => absurd q (by omega), fun _ => rfl⟩
theorem fi_0 (h : (fiz T z).1 = 0) : z.1 = 0 := by
  revert h; unfold fiz
  by_cases c : tK T z.2 = 0
  · rw [if_pos c]; exact id
  · rw [if_neg c]; exact fun q => absurd q (flz_n 1 (by decide))
/-- what a wish read leaves -/
def WE (T : tSt) (n : Nat) (b : Bool) (lo hi : Int64) (z : Nat × Nat) (mi : cM1) (ml : cM2) : Prop := z.1 = 0 → mi 5 5 = nI (vb T 0) ∧ mi 5 6 = (if vb T 0 = 3 then -1 else nI (nmr T n (0, tE T 0))) ∧ (2 ≤ vb T 0 → mi 5 4 = bI b ∧ ml 5 2 = lo ∧ ml 5 3 = hi)
set_option maxHeartbeats 1000000 in
theorem s_readWish (Z : tOK T) (C : cT T mi) {n : Nat} (hn : n < 100) (h : WR T n z b lo hi) : ∃ mi' ml', cS (ab_ro L xs) (d + 32) 63 [.ref 5, .int (nI n)] mi ml (some (.int (nI z.1))) mi' ml' ∧ WE T n b lo hi z mi' ml' ∧ fr reA reB mi ml mi' ml' := by
  refine ab_ex_q rfl rfl (fun Q hQ => vc_X7_readWish_0 (nI n) mi ml ?_)
  obtain ⟨m0, l0, s0, R0, F0, _⟩ := s_begin (L := L) (xs := xs) (d := d + 28) (ml := ml) Z C
  have hv := vb_lt T 0
  refine ⟨m0, l0, s0, _, m0, l0, s_verb Z R0, ?_⟩
  have Ra : ∀ v : Int32, RS T (0, 0) (ab_ui (ab_ui m0 5 5 v) 5 6 (-1)) := fun v => (R0.ui (by decide) (by decide) (by decide) (by decide)).ui (by decide) (by decide) (by decide) (by decide)
  have Fa : ∀ v : Int32, fr reA reB mi ml (ab_ui (ab_ui m0 5 5 v) 5 6 (-1)) l0 := fun v => (F0.ui _ rfl).ui _ rfl
  -- the last steps
  have ends : ∀ z1 m l, RS T z1 m → fr reA reB mi ml m l → z = fiz T z1 → (z1.1 = 0 → WE T n b lo hi z1 m l) → ∃ (a : cM1) (c : cM2), cS (ab_ro L xs) (d + 31) 66 [.ref 5] m l none a c ∧ Q (some (.int (a 5 1))) (ab_G a c) := fun z1 m l R F e W => by
    obtain ⟨m4, s4, R4, F4⟩ := s_fin (L := L) (xs := xs) (d := d + 29) (ml := l) Z R
    refine ⟨m4, l, s4, ?_⟩
    rw [R4.2.2.2.1, ← e]
    refine hQ _ _ ⟨fun q => ?_, F.tr (re_rd F4)⟩
    have z0 : z1.1 = 0 := fi_0 (by rw [← e]; exact q)
    have w := W z0 z0
    rw [F4.1 5 5 rfl, F4.1 5 6 rfl, F4.1 5 4 rfl]
    exact w
  have lines : ∀ z1 z2 m l, RS T z1 m → fr reA reB mi ml m l → LN T z1 z2 b lo hi → z = fiz T z2 → (z1.1 = 0 → m 5 5 = nI (vb T 0) ∧ m 5 6 = (if vb T 0 = 3 then -1 else nI (nmr T n (0, tE T 0)))) → ∃ (a : cM1) (c : cM2), cS (ab_ro L xs) (d + 31) 72 [.ref 5] m l none a c ∧ ∃ (a' : cM1) (c' : cM2), cS (ab_ro L xs) (d + 31) 66 [.ref 5] a c none a' c' ∧ Q (some (.int (a' 5 1))) (ab_G a' c') := fun z1 z2 m l R F ln e W => by
    obtain ⟨m', l', s', P⟩ := s_line (L := L) (xs := xs) (d := d) (ml := l) Z ln R
    refine ⟨m', l', s', ends z2 m' l' P.1 (F.tr P.fr) e (fun z0 _ => ?_)⟩
    have z10 : z1.1 = 0 := by
      rcases ln with ⟨c, _⟩ | ⟨c, rfl⟩
      · exact c
      · exact z0
    rw [P.2.2.1 5 5 rfl (by decide), P.2.2.1 5 6 rfl (by decide)]
    exact ⟨(W z10).1, (W z10).2, fun _ => P.2.1 z0⟩
  by_cases c4 : vb T 0 = 4
  · have e4 : vI (vb T (0, 0).2) = -1 := by show vI (vb T 0) = -1; rw [c4]; rfl
    rw [e4]
    refine ⟨fun _ => ?_, fun q => absurd rfl q⟩
    obtain ⟨m', s', R', F'⟩ := s_fail (ro := ab_ro L xs) (d := d + 30) (ml := l0) (v := 1) Z (k := 1) rfl (by decide) (Ra (-1))
    refine ⟨m', l0, s', ?_⟩
    rw [R'.2.2.2.1, ← h.1 c4]
    exact hQ _ _ ⟨fun q => absurd q (by rw [h.1 c4]; exact flz_n 1 (by decide)), (Fa _).tr (re_rd F')⟩
  · have ev : vI (vb T (0, 0).2) = nI (vb T 0) := by show vI (vb T 0) = _; unfold vI; rw [if_pos (by omega)]
    rw [ev, xe_m1 (by omega)]
    refine ⟨fun q => q.elim, fun _ => ?_⟩
    obtain ⟨m1, s1, R1, F1⟩ := s_st (ro := ab_ro L xs) (d := d + 30) (ml := l0) Z (Ra (nI (vb T 0)))
    have e55 : m1 5 5 = nI (vb T 0) := by rw [F1.1 5 5 rfl]; simp [ui_app]
    have e56 : m1 5 6 = -1 := by rw [F1.1 5 6 rfl]; simp [ui_app]
    have Fb := (Fa (nI (vb T 0))).tr (re_rd F1)
    refine ⟨m1, l0, s1, ?_⟩
    rw [e55, xe_2 (by omega), xe_3 (by omega)]
    by_cases c3 : vb T 0 = 3
    · obtain ⟨z1, ln, e⟩ := h.2.1 c3
      have n2 : ¬ vb T 0 = 2 := by omega
      refine ⟨fun _ => ⟨fun q => absurd q n2, fun _ => ⟨fun q => absurd q n2, fun _ => ⟨fun _ => ?_, fun q => absurd c3 q⟩⟩⟩, fun q => absurd c3 q⟩
      exact lines _ z1 m1 l0 R1 Fb ln e (fun _ => ⟨e55, by rw [if_pos c3]; exact e56⟩)
    · refine ⟨fun q => absurd q c3, fun _ => ?_⟩
      obtain ⟨m2, s2, R2, F2⟩ := s_tn (ro := ab_ro L xs) (d := d + 29) (ml := l0) (l := n) (v := nI n) Z rfl hn R1
      refine ⟨_, m2, l0, s2, ?_⟩
      have f55 : m2 5 5 = nI (vb T 0) := (F2.1 5 5 rfl).trans e55
      have R2' : RS T (nmz T n (0, tE T 0)) (ab_ui m2 5 6 (nI (nmr T n (0, tE T 0)))) := R2.ui (by decide) (by decide) (by decide) (by decide)
      have Fc : fr reA reB mi ml (ab_ui m2 5 6 (nI (nmr T n (0, tE T 0)))) l0 := (Fb.tr (re_rd F2)).ui _ rfl
      have g55 : ab_ui m2 5 6 (nI (nmr T n (0, tE T 0))) 5 5 = nI (vb T 0) := by simp [ui_app]; exact f55
      have g56 : ab_ui m2 5 6 (nI (nmr T n (0, tE T 0))) 5 6 = (if vb T 0 = 3 then -1 else nI (nmr T n (0, tE T 0))) := by rw [if_neg c3]; simp [ui_app]
      rw [f55, xe_2 (by omega)]
      by_cases c2 : vb T 0 = 2
      · obtain ⟨z1, ln, e⟩ := h.2.2.1 c2
        refine ⟨fun _ => ?_, fun q => absurd c2 q⟩
        obtain ⟨m3, s3, R3, F3⟩ := s_tw2 (L := L) (xs := xs) (d := d + 25) (ml := l0) Z R2'
        refine ⟨m3, l0, s3, ?_⟩
        have i55 : m3 5 5 = nI (vb T 0) := (F3.1 5 5 rfl).trans g55
        rw [i55, xe_2 (by omega)]
        refine ⟨fun _ => ?_, fun q => absurd c2 q⟩
        exact lines _ z1 m3 l0 R3 (Fc.tr (re_rd F3)) ln e (fun _ => ⟨i55, (F3.1 5 6 rfl).trans g56⟩)
      · have e := h.2.2.2 (by omega)
        rw [xe_3 (by omega)]
        refine ⟨fun q => absurd q c2, fun _ => ⟨fun q => absurd q c2, fun _ => ⟨fun q => absurd q c3, fun _ => ?_⟩⟩⟩
        obtain ⟨m3, s3, R3, F3⟩ := s_ts (ro := ab_ro L xs) (d := d + 29) (ml := l0) (k := 6) (v := 6) Z rfl (by decide) R2'
        refine ⟨m3, l0, s3, ends _ m3 l0 R3 (Fc.tr (re_rd F3)) e (fun _ _ => ⟨(F3.1 5 5 rfl).trans g55, (F3.1 5 6 rfl).trans g56, fun q => absurd q (by omega)⟩)⟩
end CV
