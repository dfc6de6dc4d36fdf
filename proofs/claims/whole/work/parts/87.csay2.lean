/-! Sayings, the class's side: all of them. -/
section CI
variable {L : Nat} {xs : Nat → Int32} {d : Nat} {mi m1 m2 : cM1} {ml l1 l2 : cM2} {T : tSt} {z : Nat × Nat} {lo hi : Int64}
theorem RS.e0 (R : RS T z mi) (h : z.1 = 0) : RS T (0, z.2) mi := ⟨R.1, R.2.1, R.2.2.1, by rw [R.2.2.2.1, h], (by decide : 0 < 2 ^ 20)⟩
theorem fr2u (m : cM2) (a b : Int64) : fr rdA rdB mi m mi (ab_ul (ab_ul m 5 2 a) 5 3 b) := (fr.rf.ul _ rfl).ul _ rfl
/-- the loop of a term goes on -/
theorem c_tlS (Z : tOK T) {x p D i : Nat} {a b lo1 hi1 : Int64} {Q : Option Value → ab_S → Prop} (h : wdP T 8 p) (hx : x ≤ 6) (hD : 3 * (6 - x) + 10 ≤ D) (R : RS T (0, p) mi) (hi : i < p) (ih : ptM T L xs x (tE T p) z lo1 hi1)
    (k : ∀ m' l', PE T z lo1 hi1 mi ml m' l' → W_X7_term_19 (cs (ab_ro L xs) D) (ab_ro L xs) Q (nI x) (a &&& l' 5 2) (b &&& l' 5 3) (nI (i + 1)) m' l') : W_X7_term_19 (cs (ab_ro L xs) D) (ab_ro L xs) Q (nI x) a b (nI i) mi ml := by
  obtain ⟨e, rfl⟩ : ∃ e, D = e + 5 := ⟨D - 5, by omega⟩
  refine vc_X7_term_19 _ _ _ _ mi ml ?_
  have hn := Z.1
  have hp := R.2.2.1
  have hlt := tE_pp Z (p := p) (by rw [h.1]; decide)
  have hle := tE_le T hp
  have hp : p ≤ T.1 := hp
  have e1 : nI i + 1 = nI (i + 1) := nI_1 i
  rw [xl_1000 (by omega), R.2.2.2.1, e1]
  refine ⟨fun _ => ⟨fun _ => ⟨_, _, _, s_wd8 Z R.1 R.2.2.1 R.2.1, ⟨fun c => absurd h (pI_e0.1 c), fun _ => ?_⟩⟩, fun c => absurd rfl c⟩, fun c => absurd c (by omega)⟩
  obtain ⟨m1, s1, R1, F1⟩ := s_st (ro := ab_ro L xs) (d := e + 4) (ml := ml) Z R
  obtain ⟨m', l', s2, P⟩ := ih (e + 5) m1 ml hx hD R1
  exact ⟨m1, ml, s1, m', l', s2, k m' l' (P.tr F1)⟩
theorem c_slS (Z : tOK T) {x p D i : Nat} {a b lo1 hi1 : Int64} {Q : Option Value → ab_S → Prop} (h : wdP T 7 p) (hx : x ≤ 6) (hD : 3 * (6 - x) + 11 ≤ D) (R : RS T (0, p) mi) (hi : i < p) (ih : tmM T L xs x (tE T p) z lo1 hi1)
    (k : ∀ m' l', PE T z lo1 hi1 mi ml m' l' → W_X7_saying_19 (cs (ab_ro L xs) D) (ab_ro L xs) Q (nI x) (a ||| l' 5 2) (b ||| l' 5 3) (nI (i + 1)) m' l') : W_X7_saying_19 (cs (ab_ro L xs) D) (ab_ro L xs) Q (nI x) a b (nI i) mi ml := by
  obtain ⟨e, rfl⟩ : ∃ e, D = e + 5 := ⟨D - 5, by omega⟩
  refine vc_X7_saying_19 _ _ _ _ mi ml ?_
  have hn := Z.1
  have hp := R.2.2.1
  have hlt := tE_pp Z (p := p) (by rw [h.1]; decide)
  have hle := tE_le T hp
  have hp : p ≤ T.1 := hp
  have e1 : nI i + 1 = nI (i + 1) := nI_1 i
  rw [xl_1000 (by omega), R.2.2.2.1, e1]
  refine ⟨fun _ => ⟨fun _ => ⟨_, _, _, s_wd7 Z R.1 R.2.2.1 R.2.1, ⟨fun c => absurd h (pI_e0.1 c), fun _ => ?_⟩⟩, fun c => absurd rfl c⟩, fun c => absurd c (by omega)⟩
  obtain ⟨m1, s1, R1, F1⟩ := s_st (ro := ab_ro L xs) (d := e + 4) (ml := ml) Z R
  obtain ⟨m', l', s2, P⟩ := ih (e + 5) m1 ml hx hD R1
  exact ⟨m1, ml, s1, m', l', s2, k m' l' (P.tr F1)⟩
theorem c_tlE (Z : tOK T) {x p D i : Nat} {a b : Int64} {Q : Option Value → ab_S → Prop} (h : ¬ wdP T 8 p) (hD : 5 ≤ D) (R : RS T (0, p) mi) (hQ : Q none (ab_G mi (ab_ul (ab_ul ml 5 2 a) 5 3 b))) : W_X7_term_19 (cs (ab_ro L xs) D) (ab_ro L xs) Q (nI x) a b (nI i) mi ml := by
  obtain ⟨e, rfl⟩ : ∃ e, D = e + 5 := ⟨D - 5, by omega⟩
  refine vc_X7_term_19 _ _ _ _ mi ml ?_
  rw [R.2.2.2.1]
  exact ⟨fun _ => ⟨fun _ => ⟨_, _, _, s_wd8 Z R.1 R.2.2.1 R.2.1, ⟨fun _ => hQ, fun c => absurd (pI_e0.2 h) c⟩⟩, fun c => absurd rfl c⟩, fun _ => hQ⟩
theorem c_slE (Z : tOK T) {x p D i : Nat} {a b : Int64} {Q : Option Value → ab_S → Prop} (h : ¬ wdP T 7 p) (hD : 5 ≤ D) (R : RS T (0, p) mi) (hQ : Q none (ab_G mi (ab_ul (ab_ul ml 5 2 a) 5 3 b))) : W_X7_saying_19 (cs (ab_ro L xs) D) (ab_ro L xs) Q (nI x) a b (nI i) mi ml := by
  obtain ⟨e, rfl⟩ : ∃ e, D = e + 5 := ⟨D - 5, by omega⟩
  refine vc_X7_saying_19 _ _ _ _ mi ml ?_
  rw [R.2.2.2.1]
  exact ⟨fun _ => ⟨fun _ => ⟨_, _, _, s_wd7 Z R.1 R.2.2.1 R.2.1, ⟨fun _ => hQ, fun c => absurd (pI_e0.2 h) c⟩⟩, fun c => absurd rfl c⟩, fun _ => hQ⟩
/-- every saying that the relation reads is read so by the class -/
theorem c_all (Z : tOK T) {k x : Nat} {a b : Int64} {p : Nat} (h : PR T k x a b p z lo hi) : cMo T L xs k x a b p z lo hi := by
  refine PR.ind (M := cMo T L xs) ?_ ?_ ?_ ?_ ?_ ?_ ?_ ?_ ?_ ?_ ?_ ?_ ?_ ?_ ?_ ?_ h
  · intro x p lo hi h D mi ml hx hD R
    obtain ⟨e, rfl⟩ : ∃ e, D = e + 9 := ⟨D - 9, by omega⟩
    exact s_part Z hx R (fun _ m' R' F' => PE.n (flz_n 1 (by decide)) R' F') (fun c => absurd h c) (fun c => absurd c (by omega)) (fun c => absurd c (by omega)) (fun c => absurd c (by omega)) (fun c => absurd c (by omega))
  · intro x p lo hi h h6 D mi ml hx hD R
    obtain ⟨e, rfl⟩ : ∃ e, D = e + 9 := ⟨D - 9, by omega⟩
    exact s_part Z hx R (fun c => absurd c h) (fun _ _ m' R' F' => PE.n (flz_n 5 (by decide)) R' F') (fun _ c => absurd c (by omega)) (fun _ c => absurd c (by omega)) (fun _ c => absurd c (by omega)) (fun _ c => absurd c (by omega))
  · intro x p h h6 D mi ml hx hD R
    obtain ⟨e, rfl⟩ : ∃ e, D = e + 9 := ⟨D - 9, by omega⟩
    exact s_part Z hx R (fun c => absurd c (by omega)) (fun _ c => absurd h6 c) (fun _ _ => s_smp (d := e + 2) Z R) (fun c => absurd c (by omega)) (fun c => absurd c (by omega)) (fun c => absurd c (by omega))
  · intro x p z lo hi h h6 c D mi ml hx hD R
    obtain ⟨e, rfl⟩ : ∃ e, D = e + 9 := ⟨D - 9, by omega⟩
    exact s_part Z hx R (fun c => absurd c (by omega)) (fun _ c => absurd h6 c) (fun c => absurd c (by omega)) (fun _ _ => s_cnt (d := e) Z R c) (fun c => absurd c (by omega)) (fun c => absurd c (by omega))
  · intro x p z lo hi h h6 _ ih D mi ml hx hD R
    obtain ⟨e, rfl⟩ : ∃ e, D = e + 9 := ⟨D - 9, by omega⟩
    refine s_part Z hx R (fun c => absurd c (by omega)) (fun _ c => absurd h6 c) (fun c => absurd c (by omega)) (fun c => absurd c (by omega)) (fun _ _ => ?_) (fun c => absurd c (by omega))
    obtain ⟨m1, s1, R1, F1⟩ := s_st (ro := ab_ro L xs) (d := e + 7) (ml := ml) Z R
    obtain ⟨m', l', s2, P⟩ := ih (e + 8) m1 ml (by omega) (by omega) R1
    refine ⟨m1, ml, s1, m', l', s2, P.1, fun q => ?_, (F1.tr P.2.2).tr (fr2u _ _ _)⟩
    rw [(u52 _ _ _).1, (u52 _ _ _).2, (P.2.1 q).1, (P.2.1 q).2]; exact ⟨rfl, rfl⟩
  · intro x p z lo hi h h6 _ ih D mi ml hx hD R
    obtain ⟨e, rfl⟩ : ∃ e, D = e + 9 := ⟨D - 9, by omega⟩
    refine s_part Z hx R (fun c => absurd c (by omega)) (fun _ c => absurd h6 c) (fun c => absurd c (by omega)) (fun c => absurd c (by omega)) (fun c => absurd c (by omega)) (fun _ _ => ?_)
    obtain ⟨m1, s1, R1, F1⟩ := s_st (ro := ab_ro L xs) (d := e + 7) (ml := ml) Z R
    obtain ⟨m', l', s2, P⟩ := ih (e + 8) m1 ml (by omega) (by omega) R1
    obtain ⟨m3, s3, R3, F3⟩ := s_ts (ro := ab_ro L xs) (d := e + 6) (ml := l') (k := 5) (v := 5) Z rfl (by decide) P.1
    refine ⟨m1, ml, s1, m', l', s2, m3, l', s3, R3, fun q => P.2.1 ?_, (F1.tr P.2.2).tr F3⟩
    revert q; unfold sgz
    by_cases c : z.1 = 0
    · exact fun _ => c
    · rw [if_neg (fun h => c h.1)]; exact fun q => absurd q (flz_n 1 (by decide))
  · intro x p z z2 lo hi lo2 hi2 h0 c ih c2 ih2 D mi ml hx hD R
    obtain ⟨e, rfl⟩ : ∃ e, D = e + 1 := ⟨D - 1, by omega⟩
    obtain ⟨m', l', s2, P⟩ := ih e mi ml hx (by omega) R
    refine ab_ex_q rfl rfl (fun Q hQ => vc_X7_term_0 (nI x) mi ml ⟨m', l', s2, ?_⟩)
    have M := c.mo Z R.2.2.1
    rw [(P.2.1 h0).1, (P.2.1 h0).2]
    exact ih2 e m' l' 0 Q hx (by omega) (P.1.e0 h0) (by have := M.2 h0 (by decide); omega) (fun a b h => hQ a b (h.tr P.2.2))
  · intro x p z lo hi lo2 hi2 h0 c ih D mi ml hx hD R
    obtain ⟨e, rfl⟩ : ∃ e, D = e + 1 := ⟨D - 1, by omega⟩
    obtain ⟨m', l', s2, P⟩ := ih e mi ml hx (by omega) R
    refine ab_ex_q rfl rfl (fun Q hQ => vc_X7_term_0 (nI x) mi ml ⟨m', l', s2, ?_⟩)
    exact c_tm (p := p) (i := 0) h0 P.1 (hQ _ _ (PE.n h0 P.1 (P.2.2.tr (fr2u _ _ _))))
  · intro x p lo hi h D mi ml i Q hx hD R hi hQ
    exact c_tlE Z h (by omega) R (hQ _ _ ⟨R, fun _ => u52 _ _ _, fr2u _ _ _⟩)
  · intro x p z z2 lo hi lo1 hi1 lo2 hi2 h h0 c ih c2 ih2 D mi ml i Q hx hD R hi hQ
    refine c_tlS Z h hx hD R hi ih (fun m' l' P => ?_)
    have M := c.mo Z (tE_le T R.2.2.1)
    have hlt := tE_pp Z (p := p) (by rw [h.1]; decide)
    rw [(P.2.1 h0).1, (P.2.1 h0).2]
    exact ih2 D m' l' (i + 1) Q hx hD (P.1.e0 h0) (by have := M.2 h0 (by decide); omega) (fun a b h => hQ a b (h.tr P.2.2))
  · intro x p z lo hi lo1 hi1 lo2 hi2 h h0 c ih D mi ml i Q hx hD R hi hQ
    refine c_tlS Z h hx hD R hi ih (fun m' l' P => ?_)
    exact c_tm (p := p) h0 P.1 (hQ _ _ (PE.n h0 P.1 (P.2.2.tr (fr2u _ _ _))))
  · intro x p z z2 lo hi lo2 hi2 h0 c ih c2 ih2 D mi ml hx hD R
    obtain ⟨e, rfl⟩ : ∃ e, D = e + 1 := ⟨D - 1, by omega⟩
    obtain ⟨m', l', s2, P⟩ := ih e mi ml hx (by omega) R
    refine ab_ex_q rfl rfl (fun Q hQ => vc_X7_saying_0 (nI x) mi ml ⟨m', l', s2, ?_⟩)
    have M := c.mo Z R.2.2.1
    rw [(P.2.1 h0).1, (P.2.1 h0).2]
    exact ih2 e m' l' 0 Q hx (by omega) (P.1.e0 h0) (by have := M.2 h0 (by decide); omega) (fun a b h => hQ a b (h.tr P.2.2))
  · intro x p z lo hi lo2 hi2 h0 c ih D mi ml hx hD R
    obtain ⟨e, rfl⟩ : ∃ e, D = e + 1 := ⟨D - 1, by omega⟩
    obtain ⟨m', l', s2, P⟩ := ih e mi ml hx (by omega) R
    refine ab_ex_q rfl rfl (fun Q hQ => vc_X7_saying_0 (nI x) mi ml ⟨m', l', s2, ?_⟩)
    exact c_sy (p := p) (i := 0) h0 P.1 (hQ _ _ (PE.n h0 P.1 (P.2.2.tr (fr2u _ _ _))))
  · intro x p lo hi h D mi ml i Q hx hD R hi hQ
    exact c_slE Z h (by omega) R (hQ _ _ ⟨R, fun _ => u52 _ _ _, fr2u _ _ _⟩)
  · intro x p z z2 lo hi lo1 hi1 lo2 hi2 h h0 c ih c2 ih2 D mi ml i Q hx hD R hi hQ
    refine c_slS Z h hx hD R hi ih (fun m' l' P => ?_)
    have M := c.mo Z (tE_le T R.2.2.1)
    have hlt := tE_pp Z (p := p) (by rw [h.1]; decide)
    rw [(P.2.1 h0).1, (P.2.1 h0).2]
    exact ih2 D m' l' (i + 1) Q hx hD (P.1.e0 h0) (by have := M.2 h0 (by decide); omega) (fun a b h => hQ a b (h.tr P.2.2))
  · intro x p z lo hi lo1 hi1 lo2 hi2 h h0 c ih D mi ml i Q hx hD R hi hQ
    refine c_slS Z h hx hD R hi ih (fun m' l' P => ?_)
    exact c_sy (p := p) h0 P.1 (hQ _ _ (PE.n h0 P.1 (P.2.2.tr (fr2u _ _ _))))
theorem s_say (Z : tOK T) {p : Nat} (h : PR T 2 0 0 0 p z lo hi) (R : RS T (0, p) mi) : ∃ mi' ml', cS (ab_ro L xs) (d + 30) 73 [.ref 5, .int 0] mi ml none mi' ml' ∧ PE T z lo hi mi ml mi' ml' := c_all (L := L) (xs := xs) Z h (d + 30) mi ml (by decide) (by omega) R
end CI
