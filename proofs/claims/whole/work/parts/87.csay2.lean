/-! Sayings, the class's side: all of them. -/
section CI
variable {L : Nat} {xs : Nat → Int32} {d : Nat} {mi m1 m2 : cM1} {ml l1 l2 : cM2} {T : tSt} {z : Nat × Nat} {lo hi : Int64}
theorem m1a (x : Int64) : -1 &&& x = x := b6_ext (fun i h => by rw [b6_and, b6_m1, decide_eq_true h, Bool.true_and])
theorem z0o (x : Int64) : 0 ||| x = x := b6_ext (fun i h => by rw [b6_or, b6_0, Bool.false_or])
/-- every saying that the relation reads is read so by the class -/
theorem c_all (Z : tOK T) {k x : Nat} {a b : Int64} {p : Nat} (h : PR T k x a b p z lo hi) : cMo T L xs k x a b p z lo hi := by
  refine PR.ind (M := cMo T L xs) ?_ ?_ ?_ ?_ ?_ ?_ ?_ ?_ ?_ ?_ ?_ ?_ ?_ ?_ ?_ ?_ h
  · intro x p lo hi h D mi ml hx hD R
    obtain ⟨e, rfl⟩ : ∃ e, D = e + 9 := ⟨D - 9, by omega⟩
    exact s_part Z hx R (fun _ m' R' F' => PE.n (flz_n 1 (by decide)) R' F') (fun c => absurd h c) (fun c => absurd c (by omega)) (fun c => absurd c (by omega)) (fun c => absurd c (by omega)) (fun c => absurd c (by omega))
  · intro x p lo hi h h6 D mi ml hx hD R
    obtain ⟨e, rfl⟩ : ∃ e, D = e + 9 := ⟨D - 9, by omega⟩
    exact s_part Z hx R (fun c => absurd c h) (fun _ _ m' R' F' => PE.n (flz_n 5 (by decide)) R' F') (fun _ c => absurd c (by omega)) (fun _ c => absurd c (by omega)) (fun _ c => absurd c (by omega)) (fun _ c => absurd c (by omega))
  · intro x p h h6 D mi ml hx hD R
    obtain ⟨e, rfl⟩ : ∃ e, D = e + 9 := ⟨D - 9, by omega⟩
    exact s_part Z hx R (fun c => absurd c (by omega)) (fun _ c => absurd h6 c) (fun _ _ => s_smp (d := e + 2) Z R) (fun c => absurd c (by omega)) (fun c => absurd c (by omega)) (fun c => absurd c (by omega))
  · intro x p z lo hi h h6 c D mi ml hx hD R
    obtain ⟨e, rfl⟩ : ∃ e, D = e + 9 := ⟨D - 9, by omega⟩
    exact s_part Z hx R (fun c => absurd c (by omega)) (fun _ c => absurd h6 c) (fun c => absurd c (by omega)) (fun _ _ => s_cnt (d := e) Z R c) (fun c => absurd c (by omega)) (fun c => absurd c (by omega))
  · intro x p z lo hi h h6 _ ih D mi ml hx hD R
    obtain ⟨e, rfl⟩ : ∃ e, D = e + 9 := ⟨D - 9, by omega⟩
    refine s_part Z hx R (fun c => absurd c (by omega)) (fun _ c => absurd h6 c) (fun c => absurd c (by omega)) (fun c => absurd c (by omega)) (fun _ _ => ?_) (fun c => absurd c (by omega))
    obtain ⟨m1, s1, R1, F1⟩ := s_st (ro := ab_ro L xs) (d := e + 7) (ml := ml) Z R
    obtain ⟨m', l', s2, P⟩ := ih (e + 8) m1 ml (by omega) (by omega) R1
    refine ⟨m1, ml, s1, m', l', s2, P.1, fun q => ?_, (F1.tr P.2.2).tr (fr2u _ _ _)⟩
    rw [(u52 _ _ _).1, (u52 _ _ _).2, (P.2.1 q).1, (P.2.1 q).2]; exact ⟨rfl, rfl⟩
  · intro x p z lo hi h h6 _ ih D mi ml hx hD R
    obtain ⟨e, rfl⟩ : ∃ e, D = e + 9 := ⟨D - 9, by omega⟩
    refine s_part Z hx R (fun c => absurd c (by omega)) (fun _ c => absurd h6 c) (fun c => absurd c (by omega)) (fun c => absurd c (by omega)) (fun c => absurd c (by omega)) (fun _ _ => ?_)
    obtain ⟨m1, s1, R1, F1⟩ := s_st (ro := ab_ro L xs) (d := e + 7) (ml := ml) Z R
    obtain ⟨m', l', s2, P⟩ := ih (e + 8) m1 ml (by omega) (by omega) R1
    obtain ⟨m3, s3, R3, F3⟩ := s_ts (ro := ab_ro L xs) (d := e + 6) (ml := l') (k := 5) (v := 5) Z rfl (by decide) P.1
    refine ⟨m1, ml, s1, m', l', s2, m3, l', s3, R3, fun q => P.2.1 ?_, (F1.tr P.2.2).tr F3⟩
    revert q; unfold sgz
    by_cases c : z.1 = 0
    · exact fun _ => c
    · rw [if_neg (fun h => c h.1)]; exact fun q => absurd q (flz_n 1 (by decide))
  · intro x p z z2 lo hi lo2 hi2 h0 c ih c2 ih2 D mi ml i Q s t hx hD R hp hn hF hG
    refine c_it Z hx hD R hn ih (fun q => absurd h0 q) (fun _ m' l' R' F' => ?_)
    rw [m1a, m1a]
    have M := (c.mo Z R.2.2.1).2 h0 (by decide)
    exact ih2 D m' l' i Q s t hx hD R' (by omega) (hF.mo F') (hG.mo F')
  · intro x p z lo hi lo2 hi2 h0 c ih D mi ml i Q s t hx hD R hp hn hF hG
    exact c_it Z hx hD R hn ih hF (fun q => absurd q h0)
  · intro x p lo hi h D mi ml i Q s t hx hD R hp hF hG
    exact ⟨fun q => absurd q h, fun _ => hG rfl mi ml i R fr.rf hp⟩
  · intro x p z z2 lo hi lo1 hi1 lo2 hi2 h h0 c ih c2 ih2 D mi ml i Q s t hx hD R hp hF hG
    refine ⟨fun _ m1 R1 F1 => ?_, fun q => absurd h q⟩
    have hN := Z.1
    have le := tE_le T R.2.2.1
    have lt := tE_pp Z (p := p) (by rw [h.1]; decide)
    have M := (c.mo Z le).2 h0 (by decide)
    have le : tE T p ≤ T.1 := le
    refine c_it Z hx hD R1 (by omega) ih (fun q => absurd h0 q) (fun _ m' l' R' F' => ?_)
    exact ih2 D m' l' (i + 1) Q s t hx hD R' (by omega) (hF.mo (F1.tr F')) (hG.mo (F1.tr F'))
  · intro x p z lo hi lo1 hi1 lo2 hi2 h h0 c ih D mi ml i Q s t hx hD R hp hF hG
    refine ⟨fun _ m1 R1 F1 => ?_, fun q => absurd h q⟩
    have hN := Z.1
    have le : tE T p ≤ T.1 := tE_le T R.2.2.1
    have lt := tE_pp Z (p := p) (by rw [h.1]; decide)
    exact c_it Z hx hD R1 (by omega) ih (hF.mo F1) (fun q => absurd q h0)
  · intro x p z z2 lo hi lo2 hi2 h0 c ih c2 ih2 D mi ml hx hD R
    obtain ⟨e, rfl⟩ : ∃ e, D = e + 1 := ⟨D - 1, by omega⟩
    refine ab_ex_q rfl rfl (fun Q hQ => vc_X7_saying_0 (nI x) mi ml ?_)
    refine ih e mi ml 0 Q 0 0 hx (by omega) R (Nat.zero_le _) (by decide) (fun q => absurd h0 q) (fun _ m' l' i R' F' hp => ?_)
    rw [z0o, z0o]
    exact ih2 e m' l' i Q hx (by omega) R' hp (fun a b h => hQ a b (h.tr F'))
  · intro x p z lo hi lo2 hi2 h0 c ih D mi ml hx hD R
    obtain ⟨e, rfl⟩ : ∃ e, D = e + 1 := ⟨D - 1, by omega⟩
    refine ab_ex_q rfl rfl (fun Q hQ => vc_X7_saying_0 (nI x) mi ml ?_)
    exact ih e mi ml 0 Q 0 0 hx (by omega) R (Nat.zero_le _) (by decide) (fun _ m' l' a b R' F' => hQ _ _ (PE.n h0 R' (F'.tr (fr2u _ _ _)))) (fun q => absurd q h0)
  · intro x p lo hi h D mi ml i Q hx hD R hp hQ
    exact ⟨fun q => absurd q h, fun _ => hQ _ _ ⟨R, fun _ => u52 _ _ _, fr2u _ _ _⟩⟩
  · intro x p z z2 lo hi lo1 hi1 lo2 hi2 h h0 c ih c2 ih2 D mi ml i Q hx hD R hp hQ
    refine ⟨fun _ m1 R1 F1 => ?_, fun q => absurd h q⟩
    have hN := Z.1
    have le : tE T p ≤ T.1 := tE_le T R.2.2.1
    have lt := tE_pp Z (p := p) (by rw [h.1]; decide)
    refine ih D m1 ml (i + 1) Q lo hi hx hD R1 (by omega) (by omega) (fun q => absurd h0 q) (fun _ m' l' j R' F' hj => ?_)
    exact ih2 D m' l' j Q hx hD R' hj (fun a b h => hQ a b (h.tr (F1.tr F')))
  · intro x p z lo hi lo1 hi1 lo2 hi2 h h0 c ih D mi ml i Q hx hD R hp hQ
    refine ⟨fun _ m1 R1 F1 => ?_, fun q => absurd h q⟩
    have hN := Z.1
    have le : tE T p ≤ T.1 := tE_le T R.2.2.1
    have lt := tE_pp Z (p := p) (by rw [h.1]; decide)
    exact ih D m1 ml (i + 1) Q lo hi hx hD R1 (by omega) (by omega) (fun _ m' l' a b R' F' => hQ _ _ (PE.n h0 R' ((F1.tr F').tr (fr2u _ _ _)))) (fun q => absurd q h0)
theorem s_say (Z : tOK T) {p : Nat} (h : PR T 2 0 0 0 p z lo hi) (R : RS T (0, p) mi) : ∃ mi' ml', cS (ab_ro L xs) (d + 30) 73 [.ref 5, .int 0] mi ml none mi' ml' ∧ PE T z lo hi mi ml mi' ml' := c_all (L := L) (xs := xs) Z h (d + 30) mi ml (by decide) (by omega) R
end CI
