/-! Lines, laws, wishes and grounds read, the class's side. -/
def SY (T : tSt) (z z' : Nat × Nat) (lo hi : Int64) : Prop := (z.1 = 0 ∧ PR T 2 0 0 0 z.2 z' lo hi) ∨ (¬ z.1 = 0 ∧ z' = z)
/-- a line: b says that it is a may -/
def LN (T : tSt) (z z' : Nat × Nat) (b : Bool) (lo hi : Int64) : Prop := (z.1 = 0 ∧ b = pB (wdP T 1 z.2) ∧ ∃ z2, SY T (wdz T (if b = true then 1 else 0) z) z2 lo hi ∧ z' = sgz T 6 z2) ∨ (¬ z.1 = 0 ∧ z' = z)
def fiz (T : tSt) (z : Nat × Nat) : Nat × Nat := if tK T z.2 = 0 then z else flz T 1 z
noncomputable def tooz (T : tSt) (z : Nat × Nat) : Nat × Nat := flz T (if pB (wdP T 0 z.2 ∨ wdP T 1 z.2) = true then 5 else 1) z
def LW (T : tSt) (f : Nat → Bool × Int64 × Int64) (n : Nat) (z : Nat × Nat) (n' : Nat) (z' : Nat × Nat) : Prop := (¬ z'.1 = 0 ∨ tK T z'.2 = 0) ∧ ∀ R : Nat → Nat × Nat → Prop, R n' z' → (∀ n z z1 b lo hi, z.1 = 0 → ¬ tK T z.2 = 0 → n < 12 → LN T z z1 b lo hi → (z1.1 = 0 → f n = (b, lo, hi)) → R (n + 1) z1 → R n z) → (∀ n z, z.1 = 0 → ¬ tK T z.2 = 0 → 12 ≤ n → R n (tooz T z) → R n z) → R n z
/-- what the reader writes in all -/
def reA (k j : Nat) : Bool := tkI k j || Nat.beq k 5 || Nat.beq k 8
def reB (k j : Nat) : Bool := Nat.beq k 5 || Nat.beq k 6 || Nat.beq k 7
theorem re_rd {mi mi' : cM1} {ml ml' : cM2} (h : fr rdA rdB mi ml mi' ml') : fr reA reB mi ml mi' ml' := h.wk (fun k j q => by
    unfold rdA at q; unfold reA
    simp only [Bool.or_eq_true, Bool.and_eq_true] at q ⊢
    rcases q with q | q
    · exact Or.inl (Or.inl q)
    · exact Or.inl (Or.inr q.1)) (fun k j q => by
    unfold rdB at q; unfold reB
    simp only [Bool.or_eq_true, Bool.and_eq_true] at q ⊢
    exact Or.inl (Or.inl q.1))
section CR
variable {L : Nat} {xs : Nat → Int32} {d : Nat} {mi m1 m2 : cM1} {ml l1 l2 : cM2} {T : tSt} {z z1 z2 : Nat × Nat} {lo hi : Int64} {b : Bool}
theorem SY.ex (Z : tOK T) (h : z.2 ≤ T.1) : ∃ z' lo hi, SY T z z' lo hi := by
  by_cases c : z.1 = 0
  · obtain ⟨z', lo, hi, q⟩ := sy_ex Z h
    exact ⟨z', lo, hi, Or.inl ⟨c, q⟩⟩
  · exact ⟨z, 0, 0, Or.inr ⟨c, rfl⟩⟩
theorem SY.mo (Z : tOK T) (h : SY T z z1 lo hi) (hp : z.2 ≤ T.1) : Mo T z z1 := by
  rcases h with ⟨c, h⟩ | ⟨c, rfl⟩
  · exact (h.mo Z hp).1
  · exact mo_rf hp
theorem SY.z0 (h : SY T z z1 lo hi) (c : z1.1 = 0) : z.1 = 0 := by
  rcases h with ⟨c, h⟩ | ⟨c, rfl⟩
  · exact c
  · assumption
theorem sg_0 {k : Nat} (h : (sgz T k z).1 = 0) : z.1 = 0 := by
  revert h; unfold sgz
  by_cases c : z.1 = 0 ∧ tK T z.2 = k
  · exact fun _ => c.1
  · rw [if_neg c]; exact fun h => absurd h (flz_n 1 (by decide))
theorem wd_0 {k : Nat} (h : (wdz T k z).1 = 0) : z.1 = 0 ∧ wdP T k z.2 ∧ wdz T k z = stz T z := by
  revert h; unfold wdz
  by_cases c : z.1 = 0 ∧ pB (wdP T k z.2) = true
  · exact fun _ => ⟨c.1, pB_iff.1 c.2, if_pos c⟩
  · rw [if_neg c]; exact fun h => absurd h (flz_n 1 (by decide))
theorem LN.ex (Z : tOK T) (h : z.2 ≤ T.1) : ∃ z' b lo hi, LN T z z' b lo hi := by
  by_cases c : z.1 = 0
  · obtain ⟨z2, lo, hi, q⟩ := SY.ex (z := wdz T (if pB (wdP T 1 z.2) = true then 1 else 0) z) Z (mo_wd Z _ h).2
    exact ⟨_, _, lo, hi, Or.inl ⟨c, rfl, z2, q, rfl⟩⟩
  · exact ⟨z, false, 0, 0, Or.inr ⟨c, rfl⟩⟩
theorem LN.mo (Z : tOK T) (h : LN T z z1 b lo hi) (hp : z.2 ≤ T.1) : Mo T z z1 ∧ (z1.1 = 0 → z.2 < z1.2) := by
  rcases h with ⟨c, hb, z2, h, rfl⟩ | ⟨c, rfl⟩
  · have M := mo_wd Z (if b = true then 1 else 0) hp
    have M2 := h.mo Z M.2
    refine ⟨(M.tr (fun _ => M2)).tr (mo_sg Z 6), fun q => ?_⟩
    have w := wd_0 (h.z0 (sg_0 q))
    have lt : z.2 < tE T z.2 := tE_pp Z (by rw [w.2.1.1]; decide)
    have M3 := (M2.tr (mo_sg Z 6))
    rw [w.2.2] at M3
    exact Nat.lt_of_lt_of_le lt M3.1
  · exact ⟨mo_rf hp, fun q => absurd q c⟩
theorem s_say2 (Z : tOK T) (h : SY T z z1 lo hi) (R : RS T z mi) : ∃ mi' ml', cS (ab_ro L xs) (d + 30) 73 [.ref 5, .int 0] mi ml none mi' ml' ∧ PE T z1 lo hi mi ml mi' ml' := by
  rcases h with ⟨c, h⟩ | ⟨c, rfl⟩
  · exact s_say Z h (R.e0 c)
  · have hz := R.2.2.2.2
    have pt : cS (ab_ro L xs) (d + 29) 75 [.ref 5, .int 0] mi ml none mi ml := by
      refine ab_sem_q rfl rfl (fun Q hQ => vc_X7_part_0 0 mi ml ?_)
      rw [R.2.2.2.1, xe_0 (by omega)]
      exact ⟨fun q => absurd q c, fun _ => hQ⟩
    exact ab_ex_q rfl rfl (fun Q hQ => vc_X7_saying_0 0 mi ml (c_itF (x := 0) (i := 0) (by decide) pt c R (fun a b => hQ _ _ (PE.n c R (fr2u _ _ _)))))
/-- the end of a line -/
def LE (T : tSt) (z : Nat × Nat) (b : Bool) (lo hi : Int64) (mi : cM1) (ml : cM2) (mi' : cM1) (ml' : cM2) : Prop := RS T z mi' ∧ (z.1 = 0 → mi' 5 4 = bI b ∧ ml' 5 2 = lo ∧ ml' 5 3 = hi) ∧ (∀ k j, rdA k j = false → ¬ (k = 5 ∧ j = 4) → mi' k j = mi k j) ∧ (∀ k j, rdB k j = false → ml' k j = ml k j) ∧ (mi 5 4 = 0 ∨ mi 5 4 = 1 → mi' 5 4 = 0 ∨ mi' 5 4 = 1)
theorem RS.ui {k j : Nat} {v : Int32} (R : RS T z mi) (h2 : ¬ k = 2) (h3 : ¬ k = 3) (h4 : ¬ k = 4) (h5 : ¬ (k = 5 ∧ j = 1)) : RS T z (ab_ui mi k j v) := by
  have e : ∀ a c, a = 2 ∨ a = 3 ∨ a = 4 ∨ (a = 5 ∧ c = 1) → ab_ui mi k j v a c = mi a c := fun a c h => by
    rw [ui_app]
    by_cases q : a = k
    · by_cases q2 : c = j
      · omega
      · rw [if_pos q, if_neg q2]
    · rw [if_neg q]
  refine ⟨R.1.of (e 2 2 (by omega)) (funext (fun c => e 3 c (by omega))) (funext (fun c => e 4 c (by omega))), ⟨?_, ?_, ?_⟩, R.2.2.1, ?_, R.2.2.2.2⟩
  · rw [e 2 4 (by omega)]; exact R.2.1.1
  · rw [e 2 3 (by omega)]; exact R.2.1.2.1
  · rw [e 2 5 (by omega)]; exact R.2.1.2.2
  · rw [e 5 1 (by omega)]; exact R.2.2.2.1
theorem pI_01' (P : Prop) : pI P = 0 ∨ pI P = 1 := by
  by_cases h : P
  · exact Or.inr (pI_1 h)
  · exact Or.inl (pI_0 h)
set_option maxHeartbeats 1000000 in
theorem s_line (Z : tOK T) (h : LN T z z1 b lo hi) (R : RS T z mi) : ∃ mi' ml', cS (ab_ro L xs) (d + 31) 72 [.ref 5] mi ml none mi' ml' ∧ LE T z1 b lo hi mi ml mi' ml' := by
  have hz := R.2.2.2.2
  refine ab_ex_q rfl rfl (fun Q hQ => vc_X7_readLine_0 mi ml ?_)
  rw [R.2.2.2.1, xe_0 (by omega)]
  rcases h with ⟨c, hb, z2, h, rfl⟩ | ⟨c, rfl⟩
  · refine ⟨fun _ => ⟨_, _, _, s_wd1 Z R.1 R.2.2.1 R.2.1, pI_01' _, ?_⟩, fun q => absurd c q⟩
    have R0 : RS T z (ab_ui mi 5 4 (pI (wdP T 1 z.2))) := R.ui (by decide) (by decide) (by decide) (by decide)
    have eb : bI b = pI (wdP T 1 z.2) := by rw [hb, bI_pB]
    have rest : ∀ m', RS T (wdz T (if b = true then 1 else 0) z) m' → fr rdA rdB (ab_ui mi 5 4 (pI (wdP T 1 z.2))) ml m' ml → ∃ (mi6 : cM1) (ml7 : cM2), cS (ab_ro L xs) (d + 30) 73 [.ref 5, .int 0] m' ml none mi6 ml7 ∧ (∃ (mi8 : cM1) (ml9 : cM2), cS (ab_ro L xs) (d + 30) 70 [.ref 5, .int 6] mi6 ml7 none mi8 ml9 ∧ (Q none (ab_G mi8 ml9))) := fun m' R1 F1 => by
      obtain ⟨m2, l2, s2, P⟩ := s_say2 (L := L) (xs := xs) (d := d) (ml := ml) Z h R1
      obtain ⟨m3, s3, R3, F3⟩ := s_ts (ro := ab_ro L xs) (d := d + 28) (ml := l2) (k := 6) (v := 6) Z rfl (by decide) P.1
      have F := (F1.tr P.2.2).tr F3
      have e4 : m3 5 4 = pI (wdP T 1 z.2) := by rw [F.1 5 4 rfl, ui_app, if_pos rfl, if_pos rfl]
      refine ⟨m2, l2, s2, m3, l2, s3, hQ _ _ ⟨R3, fun q => ⟨e4.trans eb.symm, P.2.1 (sg_0 q)⟩, fun k j q1 q2 => ?_, F.2, fun _ => e4 ▸ pI_01' _⟩⟩
      rw [F.1 k j q1, ui_app]
      by_cases q : k = 5
      · rw [if_pos q, if_neg (fun q3 => q2 ⟨q, q3⟩)]
      · rw [if_neg q]
    refine ⟨fun c1 => ?_, fun c1 => ?_⟩
    · have b0 : b = false := by rw [hb]; exact pB_f.2 (pI_e0.1 c1)
      obtain ⟨m', s', R', F'⟩ := s_tw0 (L := L) (xs := xs) (d := d + 24) (ml := ml) Z R0
      exact ⟨m', ml, s', rest m' (by rw [b0]; exact R') F'⟩
    · have b0 : b = true := by rw [hb]; exact pB_iff.2 (Classical.not_not.1 (fun q => c1 (pI_e0.2 q)))
      obtain ⟨m', s', R', F'⟩ := s_tw1 (L := L) (xs := xs) (d := d + 24) (ml := ml) Z R0
      exact ⟨m', ml, s', rest m' (by rw [b0]; exact R') F'⟩
  · exact ⟨fun q => absurd q c, fun _ => hQ _ _ ⟨R, fun q => absurd q c, fun _ _ _ _ => rfl, fun _ _ _ => rfl, id⟩⟩
theorem s_fin (Z : tOK T) (R : RS T z mi) : ∃ mi', cS (ab_ro L xs) (d + 2) 66 [.ref 5] mi ml none mi' ml ∧ RS T (fiz T z) mi' ∧ fr rdA rdB mi ml mi' ml := by
  have key : ∃ mi' ml', cS (ab_ro L xs) (d + 2) 66 [.ref 5] mi ml none mi' ml' ∧ (ml' = ml ∧ RS T (fiz T z) mi' ∧ fr rdA rdB mi ml mi' ml) := by
    refine ab_ex_q rfl rfl (fun Q hQ => vc_X7_finish_0 mi ml ?_)
    have h7 := tK_7 T z.2
    rw [R.2.1.2.1, xe_0 (by omega)]
    obtain ⟨m2, g1, g2, g3⟩ := s_fail (ro := ab_ro L xs) (d := d) (ml := ml) (v := 1) Z (k := 1) rfl (by decide) R
    refine ⟨fun c => hQ _ _ ⟨rfl, by unfold fiz; rw [if_pos c]; exact R, fr.rf⟩, fun c => ⟨_, _, g1, hQ _ _ ⟨rfl, by unfold fiz; rw [if_neg c]; exact g2, g3⟩⟩⟩
  obtain ⟨mi', ml', h1, rfl, h2⟩ := key
  exact ⟨mi', h1, h2⟩
/-- the reader at the tape's start -/
theorem s_begin (Z : tOK T) (C : cT T mi) : ∃ mi' ml', cS (ab_ro L xs) (d + 3) 65 [.ref 5] mi ml none mi' ml' ∧ RS T (0, 0) mi' ∧ fr reA reB mi ml mi' ml' ∧ mi' 5 4 = 0 := by
  have rew : ∀ m l, cT T m → m 5 1 = 0 → ∃ m', cS (ab_ro L xs) (d + 2) 84 [.ref 2] m l none m' l ∧ RS T (0, 0) m' ∧ fr rdA rdB m l m' l := fun m l C e5 => by
    have C1 : cT T (ab_ui m 2 5 0) := C.of (by simp [ui_app]) (by funext j; simp [ui_app]) (by funext j; simp [ui_app])
    obtain ⟨m', h1, h2, h3⟩ := s_step (ro := ab_ro L xs) (d := d) (ml := l) Z C1 (p := 0) (Nat.zero_le _) (by simp [ui_app]; rfl)
    have F : fr rdA rdB m l m' l := ⟨fun k j q => by
      have q' : tkI k j = false := by unfold rdA at q; simp only [Bool.or_eq_false_iff] at q; exact q.1
      rw [h3 k j q', ui_else (P := fun k j => !tkI k j) (k := 2) (j := 5) rfl (by rw [q']; rfl)], fun _ _ _ => rfl⟩
    refine ⟨m', ab_sem_q rfl rfl (fun Q hQ => vc_X8_rewind_0 m l ⟨m', l, h1, hQ⟩), ⟨C.fr F, h2, Nat.zero_le _, ?_, by decide⟩, F⟩
    rw [h3 5 1 rfl, ui_app, if_neg (by decide), e5]; rfl
  refine ab_ex_q rfl rfl (fun Q hQ => vc_X7_begin_0 mi ml ?_)
  obtain ⟨m', s, R, F⟩ := rew (ab_ui (ab_ui mi 5 1 0) 5 4 0) (ab_ul (ab_ul ml 5 2 0) 5 3 0) (C.of (by simp [ui_app]) (by funext j; simp [ui_app]) (by funext j; simp [ui_app])) (by simp [ui_app])
  refine ⟨m', _, s, hQ _ _ ⟨R, ((((fr.rf.ui _ rfl).ui _ rfl).ul _ rfl).ul _ rfl).tr (re_rd F), ?_⟩⟩
  rw [F.1 5 4 rfl]; simp [ui_app]
end CR
