/-! Laws, wishes and grounds read, the class's side. -/
noncomputable def vb (T : tSt) (p : Nat) : Nat := if pB (wdP T 3 p) = true then 0 else if pB (wdP T 4 p) = true then 1 else if pB (wdP T 5 p) = true then 2 else if pB (wdP T 6 p) = true then 3 else 4
def WR (T : tSt) (n : Nat) (z : Nat × Nat) (b : Bool) (lo hi : Int64) : Prop :=
  (vb T 0 = 4 → z = flz T 1 (0, 0)) ∧ (vb T 0 = 3 → ∃ z1, LN T (0, tE T 0) z1 b lo hi ∧ z = fiz T z1) ∧ (vb T 0 = 2 → ∃ z1, LN T (wdz T 2 (nmz T n (0, tE T 0))) z1 b lo hi ∧ z = fiz T z1) ∧ (vb T 0 < 2 → z = fiz T (sgz T 6 (nmz T n (0, tE T 0))))
def GR (T : tSt) (z : Nat × Nat) (lo hi : Int64) : Prop := ∃ z1, SY T (0, 0) z1 lo hi ∧ z = fiz T (sgz T 6 z1)
section CW
variable {L : Nat} {xs : Nat → Int32} {d : Nat} {mi m1 m2 : cM1} {ml l1 l2 : cM2} {T : tSt} {z z1 z2 : Nat × Nat} {lo hi : Int64} {b : Bool}
theorem vb_lt (T : tSt) (p : Nat) : vb T p < 5 := by unfold vb; (repeat' split) <;> omega
theorem LW.ex (Z : tOK T) : ∀ (m n : Nat) (z : Nat × Nat) (f0 : Nat → Bool × Int64 × Int64), z.2 ≤ T.1 → (z.1 = 0 → T.1 < z.2 + m) → n ≤ 12 → ∃ f n' z', (∀ j, j < n → f j = f0 j) ∧ LW T f n z n' z'
  | m, n, z, f0, h1, h2, hn => by
    by_cases c : ¬ z.1 = 0 ∨ tK T z.2 = 0
    · exact ⟨f0, n, z, fun _ _ => rfl, c, fun R r _ _ => r⟩
    · have c0 : z.1 = 0 := by omega
      have cK : ¬ tK T z.2 = 0 := by omega
      have hm := h2 c0
      by_cases cn : n < 12
      · obtain ⟨z1, b, lo, hi, ln⟩ := LN.ex Z h1
        have M := ln.mo Z h1
        match m, hm with
        | 0, hm => exact absurd hm (by omega)
        | m + 1, hm =>
          obtain ⟨f, n', z', hf, hL⟩ := LW.ex Z m (n + 1) z1 (fun j => if j = n then (b, lo, hi) else f0 j) M.1.2 (fun q => by have := M.2 q; omega) (by omega)
          refine ⟨f, n', z', fun j hj => by rw [hf j (by omega), if_neg (by omega)], hL.1, fun R r s t => ?_⟩
          exact s n z z1 b lo hi c0 cK cn ln (fun _ => by rw [hf n (by omega), if_pos rfl]) (hL.2 R r s t)
      · have e : ¬ (tooz T z).1 = 0 := by unfold tooz; exact flz_n _ (by split <;> decide)
        exact ⟨f0, n, tooz T z, fun _ _ => rfl, Or.inl e, fun R r _ t => t n z c0 cK (by omega) r⟩
theorem law_ex (Z : tOK T) : ∃ f n' z', LW T f 0 (0, 0) n' z' := by
  have := Z.1
  obtain ⟨f, n', z', _, h⟩ := LW.ex Z 1001 0 (0, 0) (fun _ => (false, 0, 0)) (Nat.zero_le _) (fun _ => by show T.1 < 0 + 1001; omega) (by decide)
  exact ⟨f, n', z', h⟩
def rows (f : Nat → Bool × Int64 × Int64) (n : Nat) (mi : cM1) (ml : cM2) : Prop := ∀ j, j < n → mi 8 j = bI (f j).1 ∧ ml 6 j = (f j).2.1 ∧ ml 7 j = (f j).2.2
def LWE (T : tSt) (f : Nat → Bool × Int64 × Int64) (n : Nat) (z : Nat × Nat) (mi : cM1) (ml : cM2) (mi' : cM1) (ml' : cM2) : Prop := RS T z mi' ∧ mi' 5 10 = nI n ∧ n ≤ 12 ∧ (z.1 = 0 → rows f n mi' ml') ∧ fr reA reB mi ml mi' ml'
theorem LE.fr (h : LE T z b lo hi mi ml m1 l1) : fr reA reB mi ml m1 l1 := by
  refine ⟨fun k j q => h.2.2.1 k j ?_ ?_, fun k j q => h.2.2.2.1 k j ?_⟩
  · unfold reA at q; unfold rdA
    simp only [Bool.or_eq_false_iff] at q ⊢
    exact ⟨q.1.1, by rw [q.1.2]; rfl⟩
  · intro e
    rw [e.1] at q; exact absurd q (by unfold reA; rw [Bool.or_assoc]; simp)
  · unfold reB at q; unfold rdB
    simp only [Bool.or_eq_false_iff] at q ⊢
    rw [q.1.1]; rfl
set_option maxHeartbeats 1000000 in
theorem s_readLaw (Z : tOK T) (C : cT T mi) {f : Nat → Bool × Int64 × Int64} {n' : Nat} (h : LW T f 0 (0, 0) n' z) : ∃ mi' ml', cS (ab_ro L xs) (d + 32) 62 [.ref 5] mi ml (some (.int (nI z.1))) mi' ml' ∧ LWE T f n' z mi ml mi' ml' := by
  refine ab_ex_q rfl rfl (fun Q hQ => vc_X7_readLaw_0 mi ml ?_)
  obtain ⟨m0, l0, s0, R0, F0, _⟩ := s_begin (L := L) (xs := xs) (d := d + 28) (ml := ml) Z C
  refine ⟨m0, l0, s0, ?_⟩
  have hn := Z.1
  have loop : ∀ n zz, LW T f n zz n' z → ∀ i m l, LWE T f n zz mi ml m l → (zz.1 = 0 → i ≤ zz.2) → W_X7_readLaw_11 (cs (ab_ro L xs) (d + 31)) (ab_ro L xs) Q (nI i) m l := by
    intro n zz A
    refine A.2 (fun n zz => ∀ i m l, LWE T f n zz mi ml m l → (zz.1 = 0 → i ≤ zz.2) → W_X7_readLaw_11 (cs (ab_ro L xs) (d + 31)) (ab_ro L xs) Q (nI i) m l) ?_ ?_ ?_
    · intro i m l E hi
      refine vc_X7_readLaw_11 _ m l ?_
      have hz := E.1.2.2.2.2
      have h7 := tK_7 T z.2
      have q := hQ m l E
      rw [E.1.2.2.2.1, E.1.2.1.2.1, xe_0 (by omega), xe_0 (by omega)]
      refine ⟨fun _ => ⟨fun c0 => ⟨fun _ => q, fun cK => absurd A.1 (by omega)⟩, fun _ => q⟩, fun _ => q⟩
    · intro n zz z1 b lo hi h0 hK hn12 ln hf ih i m l E hi
      refine vc_X7_readLaw_11 _ m l ?_
      have h7 := tK_7 T zz.2
      have hi := hi h0
      have hlt := tK_lt hK
      have hge := tS_ge T zz.2
      have e1 : nI i + 1 = nI (i + 1) := nI_1 i
      rw [E.1.2.2.2.1, E.1.2.1.2.1, E.2.1, xe_0 (by omega), xe_0 (by omega), xl_12 (by omega), xl_1000 (by omega), e1]
      refine ⟨fun _ => ⟨fun _ => ⟨fun q => absurd q hK, fun _ => ⟨fun _ => ?_, fun q => absurd hn12 q⟩⟩, fun q => absurd h0 q⟩, fun q => absurd q (by omega)⟩
      obtain ⟨m', l', s', P⟩ := s_line (L := L) (xs := xs) (d := d) (ml := l) Z ln E.1
      have e10 : m' 5 10 = nI n := by rw [P.2.2.1 5 10 rfl (by decide)]; exact E.2.1
      refine ⟨m', l', s', ?_⟩
      rw [e10, nI_clamp (by omega)]
      have en : nI n + 1 = nI (n + 1) := nI_1 n
      rw [en]
      refine ⟨in_of hn12 (by decide), in_of hn12 (by decide), in_of hn12 (by decide), ih (i + 1) _ _ ⟨(P.1.ui (by decide) (by decide) (by decide) (by omega)).ui (by decide) (by decide) (by decide) (by decide), ?_, by omega, fun z0 j hj => ?_, ?_⟩ (fun q => by have := (ln.mo Z E.1.2.2.1).2 q; omega)⟩
      · rw [ui_app, if_pos rfl, if_pos rfl]
      · have v4 := P.2.1 z0
        have fn := hf z0
        have e8 : ∀ v w : Int32, ab_ui (ab_ui m' 8 n v) 5 10 w 8 j = if j = n then v else m' 8 j := fun v w => by
          rw [ui_app, if_neg (by decide), ui_app, if_pos rfl]
        have e6 : ∀ v w : Int64, ab_ul (ab_ul l' 6 n v) 7 n w 6 j = if j = n then v else l' 6 j := fun v w => by
          rw [ul_app, if_neg (by decide), ul_app, if_pos rfl]
        have e7 : ∀ v w : Int64, ab_ul (ab_ul l' 6 n v) 7 n w 7 j = if j = n then w else l' 7 j := fun v w => by
          have e : ab_ul l' 6 n v 7 j = l' 7 j := by rw [ul_app, if_neg (by decide)]
          rw [ul_app, if_pos rfl, e]
        rw [e8, e6, e7]
        by_cases q : j = n
        · rw [if_pos q, if_pos q, if_pos q, q, fn, v4.1, nar_b, v4.2.1, v4.2.2]; exact ⟨rfl, rfl, rfl⟩
        · rw [if_neg q, if_neg q, if_neg q, P.2.2.1 8 j rfl (by omega), P.2.2.2.1 6 j rfl, P.2.2.2.1 7 j rfl]
          exact E.2.2.2.1 h0 j (by omega)
      · exact (E.2.2.2.2.tr P.fr).tr ((((fr.rf.ui _ rfl).ui _ rfl).ul _ rfl).ul _ rfl)
    · intro n zz h0 hK hn12 ih i m l E hi
      refine vc_X7_readLaw_11 _ m l ?_
      have h7 := tK_7 T zz.2
      have hn2 := E.2.2.1
      have hi := hi h0
      have hlt := tK_lt hK
      have hge := tS_ge T zz.2
      have e1 : nI i + 1 = nI (i + 1) := nI_1 i
      rw [E.1.2.2.2.1, E.1.2.1.2.1, E.2.1, xe_0 (by omega), xe_0 (by omega), xl_12 (by omega), xl_1000 (by omega), e1]
      refine ⟨fun _ => ⟨fun _ => ⟨fun q => absurd q hK, fun _ => ⟨fun q => absurd q (by omega), fun _ => ?_⟩⟩, fun q => absurd h0 q⟩, fun q => absurd q (by omega)⟩
      have nx : ∀ (k : Nat) (v : Int32), v = nI k → k < 16 → tooz T zz = flz T k zz → ∃ (a : cM1) (c : cM2), cS (ab_ro L xs) (d + 31) 67 [.ref 5, .int v] m l none a c ∧ W_X7_readLaw_11 (cs (ab_ro L xs) (d + 31)) (ab_ro L xs) Q (nI (i + 1)) a c := fun k v hv hk e => by
        obtain ⟨m', s', R', F'⟩ := s_fail (ro := ab_ro L xs) (d := d + 30) (ml := l) (v := v) Z hv hk E.1
        have nz : ¬ (tooz T zz).1 = 0 := by unfold tooz; exact flz_n _ (by split <;> decide)
        exact ⟨m', l, s', ih (i + 1) m' l ⟨by rw [e]; exact R', (F'.1 5 10 rfl).trans E.2.1, hn2, fun q => absurd q nz, E.2.2.2.2.tr (re_rd F')⟩ (fun q => absurd q nz)⟩
      refine ⟨_, _, _, s_wd0 Z E.1.1 E.1.2.2.1 E.1.2.1, ⟨fun c0 => ⟨_, _, _, s_wd1 Z E.1.1 E.1.2.2.1 E.1.2.1, ⟨fun c1 => nx 1 1 rfl (by decide) ?_, fun c1 => nx 5 5 rfl (by decide) ?_⟩⟩, fun c0 => nx 5 5 rfl (by decide) ?_⟩⟩
      · unfold tooz; rw [if_neg (fun q => (pB_iff.1 q).elim (pI_e0.1 c0) (pI_e0.1 c1))]
      · unfold tooz; rw [if_pos (pB_iff.2 (Or.inr (Classical.not_not.1 (fun q => c1 (pI_e0.2 q)))))]
      · unfold tooz; rw [if_pos (pB_iff.2 (Or.inl (Classical.not_not.1 (fun q => c0 (pI_e0.2 q)))))]
  exact loop 0 (0, 0) h 0 _ _ ⟨R0.ui (by decide) (by decide) (by decide) (by decide), by rw [ui_app, if_pos rfl, if_pos rfl]; rfl, by decide, fun _ j hj => absurd hj (Nat.not_lt_zero j), F0.ui _ rfl⟩ (fun _ => Nat.zero_le _)
theorem s_ground (Z : tOK T) (C : cT T mi) (h : GR T z lo hi) : ∃ mi' ml', cS (ab_ro L xs) (d + 32) 64 [.ref 5] mi ml (some (.int (nI z.1))) mi' ml' ∧ (z.1 = 0 → ml' 5 2 = lo ∧ ml' 5 3 = hi) ∧ fr reA reB mi ml mi' ml' := by
  obtain ⟨z1, h1, rfl⟩ := h
  refine ab_ex_q rfl rfl (fun Q hQ => vc_X7_readGround_0 mi ml ?_)
  obtain ⟨m0, l0, s0, R0, F0, _⟩ := s_begin (L := L) (xs := xs) (d := d + 28) (ml := ml) Z C
  obtain ⟨m2, l2, s2, P⟩ := s_say2 (L := L) (xs := xs) (d := d + 1) (ml := l0) Z h1 R0
  obtain ⟨m3, s3, R3, F3⟩ := s_ts (ro := ab_ro L xs) (d := d + 29) (ml := l2) (k := 6) (v := 6) Z rfl (by decide) P.1
  obtain ⟨m4, s4, R4, F4⟩ := s_fin (L := L) (xs := xs) (d := d + 29) (ml := l2) Z R3
  refine ⟨m0, l0, s0, m2, l2, s2, m3, l2, s3, m4, l2, s4, ?_⟩
  rw [R4.2.2.2.1]
  refine hQ _ _ ⟨fun q => P.2.1 (sg_0 (k := 6) (T := T) ?_), F0.tr (re_rd ((P.2.2.tr F3).tr F4))⟩
  revert q; unfold fiz
  by_cases c : tK T (sgz T 6 z1).2 = 0
  · rw [if_pos c]; exact id
  · rw [if_neg c]; exact fun q => absurd q (flz_n 1 (by decide))
end CW
