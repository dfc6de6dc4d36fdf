/-! Sayings, the reference's side. -/
def nptM (T : tSt) (ro : ab_E) (x p : Nat) (z : Nat × Nat) (lo hi : Int64) : Prop := ∀ D mi ml, x ≤ 6 → 3 * (6 - x) + 10 ≤ D → RM T (0, p) mi ml → ∃ mi' ml', cS ro D 166 [.ref 40, .int (nI x)] mi ml none mi' ml' ∧ PM T z lo hi mi ml mi' ml'
def ntmM (T : tSt) (ro : ab_E) (x p : Nat) (z : Nat × Nat) (lo hi : Int64) : Prop := ∀ D mi ml, x ≤ 6 → 3 * (6 - x) + 11 ≤ D → RM T (0, p) mi ml → ∃ mi' ml', cS ro D 164 [.ref 40, .int (nI x)] mi ml none mi' ml' ∧ PM T z lo hi mi ml mi' ml'
def nsyM (T : tSt) (ro : ab_E) (x p : Nat) (z : Nat × Nat) (lo hi : Int64) : Prop := ∀ D mi ml, x ≤ 6 → 3 * (6 - x) + 12 ≤ D → RM T (0, p) mi ml → ∃ mi' ml', cS ro D 163 [.ref 40, .int (nI x)] mi ml none mi' ml' ∧ PM T z lo hi mi ml mi' ml'
def ntlM (T : tSt) (ro : ab_E) (x : Nat) (a b : Int64) (p : Nat) (z : Nat × Nat) (lo hi : Int64) : Prop := ∀ D mi ml Q, x ≤ 6 → 3 * (6 - x) + 10 ≤ D → RM T (0, p) mi ml → ml 40 10 = a → ml 40 11 = b → (∀ mi' ml', PM T z lo hi mi ml mi' ml' → Q none (ab_G mi' ml')) → W_X12_readTerm_5 (cs ro D) ro Q (nI x) mi ml
def nslM (T : tSt) (ro : ab_E) (x : Nat) (a b : Int64) (p : Nat) (z : Nat × Nat) (lo hi : Int64) : Prop := ∀ D mi ml Q, x ≤ 6 → 3 * (6 - x) + 11 ≤ D → RM T (0, p) mi ml → ml 40 10 = a → ml 40 11 = b → (∀ mi' ml', PM T z lo hi mi ml mi' ml' → Q none (ab_G mi' ml')) → W_X12_readSaying_5 (cs ro D) ro Q (nI x) mi ml
def nMo (T : tSt) (ro : ab_E) : Nat → Nat → Int64 → Int64 → Nat → Nat × Nat → Int64 → Int64 → Prop
  | 0, x, _, _, p, z, lo, hi => nptM T ro x p z lo hi
  | 1, x, _, _, p, z, lo, hi => ntmM T ro x p z lo hi
  | 2, x, _, _, p, z, lo, hi => nsyM T ro x p z lo hi
  | 3, x, a, b, p, z, lo, hi => ntlM T ro x a b p z lo hi
  | _, x, a, b, p, z, lo, hi => nslM T ro x a b p z lo hi
section MS
variable {ro : ab_E} {d : Nat} {mi m1 m2 : cM1} {ml l1 l2 : cM2} {T : tSt} {z : Nat × Nat} {lo hi : Int64}
theorem RM.e0 (R : RM T z mi ml) (h : z.1 = 0) : RM T (0, z.2) mi ml := ⟨R.1, by rw [R.2.1, h], (by decide : 0 < 2 ^ 20), R.2.2.2⟩
theorem gr2u (m : cM2) (a b : Int64) : fr mrA mrB mi m mi (ab_ul (ab_ul m 40 10 a) 40 11 b) := (fr.rf.ul _ rfl).ul _ rfl
theorem v52 (m : cM2) (a b : Int64) : ab_ul (ab_ul m 40 10 a) 40 11 b 40 10 = a ∧ ab_ul (ab_ul m 40 10 a) 40 11 b 40 11 = b := by
  constructor <;> simp [ul_app]
theorem RM.uu (R : RM T z mi ml) (a b : Int64) : RM T z mi (ab_ul (ab_ul ml 40 10 a) 40 11 b) := R.fl (gr2u _ _ _) rfl R.2.1 R.2.2.1 rfl
theorem hw_n {w : Nat} (h : ¬ (z.1 = 0 ∧ wdP T w z.2)) : hwz T w z = z := by unfold hwz; rw [if_neg (fun q => h ⟨q.1, pB_iff.1 q.2⟩)]
theorem hw_y {w : Nat} (h0 : z.1 = 0) (h : wdP T w z.2) : hwz T w z = (0, tE T z.2) := by
  unfold hwz; rw [if_pos ⟨h0, pB_iff.2 h⟩]; unfold stz; rw [h0]
/-- the loops end -/
theorem n_tE (Z : tOK T) {x D : Nat} {Q : Option Value → ab_S → Prop} (h : ¬ (z.1 = 0 ∧ wdP T 8 z.2)) (hD : 5 ≤ D) (R : RM T z mi ml) (hQ : ∀ m', RM T z m' ml → fr mrA mrB mi ml m' ml → Q none (ab_G m' ml)) : W_X12_readTerm_5 (cs ro D) ro Q (nI x) mi ml := by
  obtain ⟨e, rfl⟩ : ∃ e, D = e + 2 := ⟨D - 2, by omega⟩
  obtain ⟨a1, s1, R1, F1⟩ := m_hasWord (ro := ro) (d := e) (w := 3) (v := 3) Z rfl (by decide) R
  have R1 : RM T (hwz T 8 z) a1 ml := R1
  rw [hw_n h] at R1
  exact vc_X12_readTerm_5 _ mi ml ⟨_, a1, ml, s1, fun _ => hQ a1 R1 F1, fun c => absurd (pI_e0.2 h) c⟩
theorem n_sE (Z : tOK T) {x D : Nat} {Q : Option Value → ab_S → Prop} (h : ¬ (z.1 = 0 ∧ wdP T 7 z.2)) (hD : 5 ≤ D) (R : RM T z mi ml) (hQ : ∀ m', RM T z m' ml → fr mrA mrB mi ml m' ml → Q none (ab_G m' ml)) : W_X12_readSaying_5 (cs ro D) ro Q (nI x) mi ml := by
  obtain ⟨e, rfl⟩ : ∃ e, D = e + 2 := ⟨D - 2, by omega⟩
  obtain ⟨a1, s1, R1, F1⟩ := m_hasWord (ro := ro) (d := e) (w := 2) (v := 2) Z rfl (by decide) R
  have R1 : RM T (hwz T 7 z) a1 ml := R1
  rw [hw_n h] at R1
  exact vc_X12_readSaying_5 _ mi ml ⟨_, a1, ml, s1, fun _ => hQ a1 R1 F1, fun c => absurd (pI_e0.2 h) c⟩
/-- the loops go on -/
theorem n_tS (Z : tOK T) {x p D : Nat} {lo1 hi1 : Int64} {Q : Option Value → ab_S → Prop} (h : wdP T 8 p) (hx : x ≤ 6) (hD : 3 * (6 - x) + 10 ≤ D) (R : RM T (0, p) mi ml) (ih : nptM T ro x (tE T p) z lo1 hi1)
    (k : ∀ m' l', PM T z lo1 hi1 mi ml m' l' → W_X12_readTerm_5 (cs ro D) ro Q (nI x) m' (ab_ul (ab_ul l' 40 10 ((l' 40 10) &&& (ml 40 10))) 40 11 ((l' 40 11) &&& (ml 40 11)))) : W_X12_readTerm_5 (cs ro D) ro Q (nI x) mi ml := by
  obtain ⟨e, rfl⟩ : ∃ e, D = e + 2 := ⟨D - 2, by omega⟩
  obtain ⟨a1, s1, R1, F1⟩ := m_hasWord (ro := ro) (d := e) (w := 3) (v := 3) Z rfl (by decide) R
  have R1 : RM T (hwz T 8 (0, p)) a1 ml := R1
  rw [hw_y rfl h] at R1
  obtain ⟨m', l', s2, P⟩ := ih (e + 2) a1 ml hx hD R1
  exact vc_X12_readTerm_5 _ mi ml ⟨_, a1, ml, s1, fun c => absurd ⟨rfl, h⟩ (pI_e0.1 c), fun _ => ⟨m', l', s2, k m' l' (P.tr F1)⟩⟩
theorem n_sS (Z : tOK T) {x p D : Nat} {lo1 hi1 : Int64} {Q : Option Value → ab_S → Prop} (h : wdP T 7 p) (hx : x ≤ 6) (hD : 3 * (6 - x) + 11 ≤ D) (R : RM T (0, p) mi ml) (ih : ntmM T ro x (tE T p) z lo1 hi1)
    (k : ∀ m' l', PM T z lo1 hi1 mi ml m' l' → W_X12_readSaying_5 (cs ro D) ro Q (nI x) m' (ab_ul (ab_ul l' 40 10 ((l' 40 10) ||| (ml 40 10))) 40 11 ((l' 40 11) ||| (ml 40 11)))) : W_X12_readSaying_5 (cs ro D) ro Q (nI x) mi ml := by
  obtain ⟨e, rfl⟩ : ∃ e, D = e + 2 := ⟨D - 2, by omega⟩
  obtain ⟨a1, s1, R1, F1⟩ := m_hasWord (ro := ro) (d := e) (w := 2) (v := 2) Z rfl (by decide) R
  have R1 : RM T (hwz T 7 (0, p)) a1 ml := R1
  rw [hw_y rfl h] at R1
  obtain ⟨m', l', s2, P⟩ := ih (e + 2) a1 ml hx hD R1
  exact vc_X12_readSaying_5 _ mi ml ⟨_, a1, ml, s1, fun c => absurd ⟨rfl, h⟩ (pI_e0.1 c), fun _ => ⟨m', l', s2, k m' l' (P.tr F1)⟩⟩
theorem n_all (Z : tOK T) {k x : Nat} {a b : Int64} {p : Nat} (h : PR T k x a b p z lo hi) : nMo T ro k x a b p z lo hi := by
  refine PR.ind (M := nMo T ro) ?_ ?_ ?_ ?_ ?_ ?_ ?_ ?_ ?_ ?_ ?_ ?_ ?_ ?_ ?_ ?_ h
  · intro x p lo hi h D mi ml hx hD R
    obtain ⟨e, rfl⟩ : ∃ e, D = e + 4 := ⟨D - 4, by omega⟩
    exact m_part Z hx R (fun _ m' R' F' => PM.n (flz_n 1 (by decide)) R' F') (fun c => absurd h c) (fun c => absurd c (by omega)) (fun c => absurd c (by omega)) (fun c => absurd c (by omega)) (fun c => absurd c (by omega))
  · intro x p lo hi h h6 D mi ml hx hD R
    obtain ⟨e, rfl⟩ : ∃ e, D = e + 4 := ⟨D - 4, by omega⟩
    exact m_part Z hx R (fun c => absurd c h) (fun _ _ m' R' F' => PM.n (flz_n 5 (by decide)) R' F') (fun _ c => absurd c (by omega)) (fun _ c => absurd c (by omega)) (fun _ c => absurd c (by omega)) (fun _ c => absurd c (by omega))
  · intro x p h h6 D mi ml hx hD R
    obtain ⟨e, rfl⟩ : ∃ e, D = e + 4 := ⟨D - 4, by omega⟩
    exact m_part Z hx R (fun c => absurd c (by omega)) (fun _ c => absurd h6 c) (fun _ _ m' l' P => P) (fun c => absurd c (by omega)) (fun c => absurd c (by omega)) (fun c => absurd c (by omega))
  · intro x p z lo hi h h6 c D mi ml hx hD R
    obtain ⟨e, rfl⟩ : ∃ e, D = e + 5 := ⟨D - 5, by omega⟩
    refine m_part (e := e + 1) Z hx R (fun c => absurd c (by omega)) (fun _ c => absurd h6 c) (fun c => absurd c (by omega)) (fun _ _ m1 R1 F1 => ?_) (fun c => absurd c (by omega)) (fun c => absurd c (by omega))
    obtain ⟨m', l', s, P⟩ := m_cnt (ro := ro) (d := e) Z R1 h c
    exact ⟨m', l', s, P.tr F1⟩
  · intro x p z lo hi h h6 _ ih D mi ml hx hD R
    obtain ⟨e, rfl⟩ : ∃ e, D = e + 4 := ⟨D - 4, by omega⟩
    refine m_part Z hx R (fun c => absurd c (by omega)) (fun _ c => absurd h6 c) (fun c => absurd c (by omega)) (fun c => absurd c (by omega)) (fun _ _ m1 R1 F1 => ?_) (fun c => absurd c (by omega))
    obtain ⟨m', l', s2, P⟩ := ih (e + 3) m1 ml (by omega) (by omega) R1
    refine ⟨m', l', s2, P.1.uu _ _, fun q => ?_, (F1.tr P.2.2).tr (gr2u _ _ _)⟩
    rw [(v52 _ _ _).1, (v52 _ _ _).2, (P.2.1 q).1, (P.2.1 q).2]; exact ⟨rfl, rfl⟩
  · intro x p z lo hi h h6 _ ih D mi ml hx hD R
    obtain ⟨e, rfl⟩ : ∃ e, D = e + 4 := ⟨D - 4, by omega⟩
    refine m_part Z hx R (fun c => absurd c (by omega)) (fun _ c => absurd h6 c) (fun c => absurd c (by omega)) (fun c => absurd c (by omega)) (fun c => absurd c (by omega)) (fun _ _ m1 R1 F1 => ?_)
    obtain ⟨m', l', s2, P⟩ := ih (e + 3) m1 ml (by omega) (by omega) R1
    obtain ⟨m3, s3, R3, F3⟩ := m_takeSign (ro := ro) (d := e + 1) (ml := l') (k := 5) (c := 41) (v := 41) Z rfl (Or.inr (Or.inl ⟨rfl, rfl⟩)) P.1
    exact ⟨m', l', s2, m3, l', s3, R3, fun q => P.2.1 (sg_0 q), (F1.tr P.2.2).tr F3⟩
  · intro x p z z2 lo hi lo2 hi2 h0 c ih c2 ih2 D mi ml hx hD R
    obtain ⟨e, rfl⟩ : ∃ e, D = e + 1 := ⟨D - 1, by omega⟩
    obtain ⟨m', l', s2, P⟩ := ih e mi ml hx (by omega) R
    exact ab_ex_q rfl rfl (fun Q hQ => vc_X12_readTerm_0 (nI x) mi ml ⟨m', l', s2, ih2 e m' l' Q hx (by omega) (P.1.e0 h0) (P.2.1 h0).1 (P.2.1 h0).2 (fun a b h => hQ a b (h.tr P.2.2))⟩)
  · intro x p z lo hi lo2 hi2 h0 c ih D mi ml hx hD R
    obtain ⟨e, rfl⟩ : ∃ e, D = e + 1 := ⟨D - 1, by omega⟩
    obtain ⟨m', l', s2, P⟩ := ih e mi ml hx (by omega) R
    exact ab_ex_q rfl rfl (fun Q hQ => vc_X12_readTerm_0 (nI x) mi ml ⟨m', l', s2, n_tE Z (fun q => h0 q.1) (by omega) P.1 (fun m2 R2 F2 => hQ _ _ (PM.n h0 R2 (P.2.2.tr F2)))⟩)
  · intro x p lo hi h D mi ml Q hx hD R ea eb hQ
    exact n_tE Z (fun q => h q.2) (by omega) R (fun m2 R2 F2 => hQ _ _ ⟨R2, fun _ => ⟨ea, eb⟩, F2⟩)
  · intro x p z z2 lo hi lo1 hi1 lo2 hi2 h h0 c ih c2 ih2 D mi ml Q hx hD R ea eb hQ
    refine n_tS Z h hx hD R ih (fun m' l' P => ?_)
    refine ih2 D m' _ Q hx hD ((P.1.uu _ _).e0 h0) ?_ ?_ (fun a b h => hQ a b (h.tr (P.2.2.tr (gr2u _ _ _))))
    · rw [(v52 _ _ _).1, (P.2.1 h0).1, ea, Int64.and_comm]
    · rw [(v52 _ _ _).2, (P.2.1 h0).2, eb, Int64.and_comm]
  · intro x p z lo hi lo1 hi1 lo2 hi2 h h0 c ih D mi ml Q hx hD R ea eb hQ
    refine n_tS Z h hx hD R ih (fun m' l' P => ?_)
    exact n_tE Z (fun q => h0 q.1) (by omega) (P.1.uu _ _) (fun m2 R2 F2 => hQ _ _ (PM.n h0 R2 ((P.2.2.tr (gr2u _ _ _)).tr F2)))
  · intro x p z z2 lo hi lo2 hi2 h0 c ih c2 ih2 D mi ml hx hD R
    obtain ⟨e, rfl⟩ : ∃ e, D = e + 1 := ⟨D - 1, by omega⟩
    obtain ⟨m', l', s2, P⟩ := ih e mi ml hx (by omega) R
    exact ab_ex_q rfl rfl (fun Q hQ => vc_X12_readSaying_0 (nI x) mi ml ⟨m', l', s2, ih2 e m' l' Q hx (by omega) (P.1.e0 h0) (P.2.1 h0).1 (P.2.1 h0).2 (fun a b h => hQ a b (h.tr P.2.2))⟩)
  · intro x p z lo hi lo2 hi2 h0 c ih D mi ml hx hD R
    obtain ⟨e, rfl⟩ : ∃ e, D = e + 1 := ⟨D - 1, by omega⟩
    obtain ⟨m', l', s2, P⟩ := ih e mi ml hx (by omega) R
    exact ab_ex_q rfl rfl (fun Q hQ => vc_X12_readSaying_0 (nI x) mi ml ⟨m', l', s2, n_sE Z (fun q => h0 q.1) (by omega) P.1 (fun m2 R2 F2 => hQ _ _ (PM.n h0 R2 (P.2.2.tr F2)))⟩)
  · intro x p lo hi h D mi ml Q hx hD R ea eb hQ
    exact n_sE Z (fun q => h q.2) (by omega) R (fun m2 R2 F2 => hQ _ _ ⟨R2, fun _ => ⟨ea, eb⟩, F2⟩)
  · intro x p z z2 lo hi lo1 hi1 lo2 hi2 h h0 c ih c2 ih2 D mi ml Q hx hD R ea eb hQ
    refine n_sS Z h hx hD R ih (fun m' l' P => ?_)
    refine ih2 D m' _ Q hx hD ((P.1.uu _ _).e0 h0) ?_ ?_ (fun a b h => hQ a b (h.tr (P.2.2.tr (gr2u _ _ _))))
    · rw [(v52 _ _ _).1, (P.2.1 h0).1, ea, Int64.or_comm]
    · rw [(v52 _ _ _).2, (P.2.1 h0).2, eb, Int64.or_comm]
  · intro x p z lo hi lo1 hi1 lo2 hi2 h h0 c ih D mi ml Q hx hD R ea eb hQ
    refine n_sS Z h hx hD R ih (fun m' l' P => ?_)
    exact n_sE Z (fun q => h0 q.1) (by omega) (P.1.uu _ _) (fun m2 R2 F2 => hQ _ _ (PM.n h0 R2 ((P.2.2.tr (gr2u _ _ _)).tr F2)))
/-- a saying, whatever the state -/
theorem m_say (Z : tOK T) {z1 : Nat × Nat} (h : SY T z z1 lo hi) (R : RM T z mi ml) : ∃ mi' ml', cS ro (d + 30) 163 [.ref 40, .int 0] mi ml none mi' ml' ∧ PM T z1 lo hi mi ml mi' ml' := by
  rcases h with ⟨c, h⟩ | ⟨c, rfl⟩
  · exact n_all (ro := ro) Z h (d + 30) mi ml (by decide) (by omega) (R.e0 c)
  · have hz := R.2.2.1
    have pt : cS ro (d + 28) 166 [.ref 40, .int 0] mi ml none mi ml := by
      refine ab_sem_q rfl rfl (fun Q hQ => vc_X12_readPart_0 0 mi ml ?_)
      rw [R.2.1, xg_0 (by omega)]
      exact ⟨fun _ => hQ, fun q => absurd (by omega) q⟩
    have tm : ∃ mi' ml', cS ro (d + 29) 164 [.ref 40, .int 0] mi ml none mi' ml' ∧ PM T z1 lo hi mi ml mi' ml' := ab_ex_q rfl rfl (fun Q hQ => vc_X12_readTerm_0 0 mi ml ⟨mi, ml, pt, n_tE (x := 0) Z (fun q => c q.1) (by omega) R (fun m2 R2 F2 => hQ _ _ (PM.n c R2 F2))⟩)
    obtain ⟨m', l', s, P⟩ := tm
    exact ab_ex_q rfl rfl (fun Q hQ => vc_X12_readSaying_0 0 mi ml ⟨m', l', s, n_sE (x := 0) Z (fun q => c q.1) (by omega) P.1 (fun m2 R2 F2 => hQ _ _ (PM.n c R2 (P.2.2.tr F2)))⟩)
end MS
