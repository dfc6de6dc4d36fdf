/-! Laws, the reference's side. -/
def gLA (k j : Nat) : Bool := gRA k j || Nat.beq k 46 || Nat.beq k 78 || (Nat.beq k 40 && (Nat.beq j 12 || Nat.beq j 20 || Nat.beq j 30))
def gLB (k j : Nat) : Bool := gRB k j || Nat.beq k 47 || Nat.beq k 48
def rowM (f : Nat → Bool × Int64 × Int64) (n : Nat) (mi : cM1) (ml : cM2) : Prop := ∀ j, j < n → mi 49 j = bI (!(f j).1) ∧ ml 50 j = (f j).2.1 ∧ ml 51 j = (f j).2.2
def LR (f : Nat → Bool × Int64 × Int64) (n : Nat) (mi : cM1) (ml : cM2) (mi' : cM1) (ml' : cM2) : Prop := mi' 40 12 = nI n ∧ mi' 40 20 = 0 ∧ mi' 40 30 = 0 ∧ (∀ j, j < n → mi' 46 j = bI (!(f j).1) ∧ ml' 47 j = (f j).2.1 ∧ ml' 48 j = (f j).2.2) ∧ (∀ j, j < 42 → mi' 78 j = 0) ∧ fr gLA gLB mi ml mi' ml'
section LB
variable {ro : ab_E} {d : Nat} {mi mi' m1 m2 : cM1} {ml ml' l1 l2 : cM2} {T : tSt} {z z1 : Nat × Nat} {f : Nat → Bool × Int64 × Int64}
theorem gL_gR (h : fr gRA gRB mi ml m1 l1) : fr gLA gLB mi ml m1 l1 := h.wk (fun k j q => by unfold gLA; rw [q]; rfl) (fun k j q => by unfold gLB; rw [q]; rfl)
/-- the tails of a law: copied, and the votes gone -/
theorem m_copy {Q : Option Value → ab_S → Prop} {n : Nat} (hn : n ≤ 12) (e16 : m1 40 16 = nI n) (e2 : m1 40 2 = 0) (hr : rowM f n m1 l1) (F : fr gRA gRB mi ml m1 l1) (hQ : ∀ mi' ml', mi' 40 2 = 0 → LR f n mi ml mi' ml' → Q (some (.int 0)) (ab_G mi' ml')) : W_X12_law_62 (cs ro d) ro Q 0 (ab_ui m1 40 12 (nI n)) l1 := by
  have tail : ∀ m l, m 40 12 = nI n → m 40 2 = 0 → (∀ j, j < n → m 46 j = bI (!(f j).1) ∧ l 47 j = (f j).2.1 ∧ l 48 j = (f j).2.2) → m 40 20 = 0 → m 40 30 = 0 → fr gLA gLB mi ml m l → W_X12_law_124 (cs ro d) ro Q 0 m l := by
    intro m l h1 h2 h3 h4 h5 h6
    refine up0 (n := 42) (F := fun i => ∀ m', (∀ j, j < i → m' 78 j = 0) → (∀ k j, ¬ k = 78 → m' k j = m k j) → fr gLA gLB mi ml m' l → W_X12_law_124 (cs ro d) ro Q (nI i) m' l) (fun i hi ih m' q1 q2 q3 => ?_) (fun m' q1 q2 q3 => ?_) m (fun j hj => absurd hj (Nat.not_lt_zero j)) (fun _ _ _ => rfl) h6
    · refine vc_X12_law_124 _ m' l ?_
      have e1 : nI i + 1 = nI (i + 1) := nI_1 i
      rw [xl_42 (by omega), nI_clamp (by omega), e1, nar_0]
      refine ⟨fun _ => ⟨in_of hi (by decide), ih _ (fun j hj => ?_) (fun k j hk => by rw [ui_app, if_neg hk]; exact q2 k j hk) (q3.ui _ (by unfold gLA; simp [beqT]))⟩, fun q => absurd hi q⟩
      rw [ui_app, if_pos rfl]
      by_cases e : j = i
      · rw [if_pos e]
      · rw [if_neg e]; exact q1 j (by omega)
    · refine vc_X12_law_124 _ m' l ?_
      rw [xl_42 (by omega)]
      refine ⟨fun q => absurd q (by omega), fun _ => hQ _ _ ((q2 40 2 (by decide)).trans h2) ⟨(q2 40 12 (by decide)).trans h1, (q2 40 20 (by decide)).trans h4, (q2 40 30 (by decide)).trans h5, fun j hj => ?_, q1, q3⟩⟩
      rw [q2 46 j (by decide)]; exact h3 j hj
  refine up0 (n := n) (F := fun i => ∀ m l, m 40 12 = nI n → m 40 2 = 0 → m 40 16 = nI n → (∀ j, j < i → m 46 j = bI (!(f j).1) ∧ l 47 j = (f j).2.1 ∧ l 48 j = (f j).2.2) → rowM f n m l → fr gLA gLB mi ml m l → W_X12_law_62 (cs ro d) ro Q (nI i) m l) (fun i hi ih m l h1 h2 h3 h4 h5 h6 => ?_) (fun m l h1 h2 h3 h4 h5 h6 => ?_) _ _ (by simp [ui_app]) (by simp [ui_app]; exact e2) (by simp [ui_app]; exact e16) (fun j hj => absurd hj (Nat.not_lt_zero j)) (fun j hj => by rw [ui_app, if_neg (by decide)]; exact hr j hj) ((gL_gR F).ui _ rfl)
  · refine vc_X12_law_62 _ m l ?_
    have e1 : nI i + 1 = nI (i + 1) := nI_1 i
    have v := h5 i hi
    have i13 : vp_in (nI i) 13 := in_of (by omega) (by decide)
    have i12 : vp_in (nI i) 12 := in_of (by omega) (by decide)
    rw [h3, nI_ltI (by omega) (by omega), nI_clamp (by omega), e1, v.1, nar_b, v.2.1, v.2.2]
    refine ⟨fun _ => ⟨i13, i12, i13, i12, i13, i12, ih _ _ (by simp [ui_app]; exact h1) (by simp [ui_app]; exact h2) (by simp [ui_app]; exact h3) (fun j hj => ?_) (fun j hj => ?_) (((h6.ui _ (by unfold gLA; simp [beqT])).ul _ (by unfold gLB; simp [beqT])).ul _ (by unfold gLB; simp [beqT]))⟩, fun q => absurd hi q⟩
    · by_cases e : j = i
      · rw [e]; refine ⟨by simp [ui_app], by simp [ul_app], by simp [ul_app]⟩
      · have := h4 j (by omega)
        refine ⟨by simp [ui_app, e]; exact this.1, by simp [ul_app, e]; exact this.2.1, by simp [ul_app, e]; exact this.2.2⟩
    · have := h5 j hj
      refine ⟨by simp [ui_app]; exact this.1, by simp [ul_app]; exact this.2.1, by simp [ul_app]; exact this.2.2⟩
  · refine vc_X12_law_62 _ m l ?_
    rw [h3, nI_ltI (by omega) (by omega)]
    refine ⟨fun q => absurd q (by omega), fun _ => tail _ _ (by simp [ui_app]; exact h1) (by simp [ui_app]; exact h2) (fun j hj => ?_) (by simp [ui_app]) (by simp [ui_app]) ((h6.ui _ rfl).ui _ rfl)⟩
    have := h4 j hj
    exact ⟨by simp [ui_app]; exact this.1, this.2⟩
set_option maxHeartbeats 1000000 in
theorem m_law (Z : tOK T) (M : mT T mi) (hx : ∀ w, w < 22 → ml 45 w = wds.getD w 0) {n : Nat} (h : LW T f 0 (0, 0) n z) : ∃ mi' ml', cS ro 40 170 [.ref 40] mi ml (some (.int (nI z.1))) mi' ml' ∧ mi' 40 2 = 0 ∧ (¬ z.1 = 0 → fr gRA gRB mi ml mi' ml') ∧ (z.1 = 0 → LR f n mi ml mi' ml') := by
  refine ab_ex_q rfl rfl (fun Q hQ => vc_X12_law_0 mi ml ?_)
  have M0 : mT T (ab_ui mi 40 0 0) := ⟨by simp [ui_app]; exact M.1, fun i hi => by rw [ui_app, if_neg (by decide)]; exact M.2 i hi⟩
  obtain ⟨a1, b1, s1, mt, e7, e8, e2, F1⟩ := s_cutAll (ro := ro) (d := 36) (ml := ml) Z M0
  have R1 := RM0 mt e7 e8 (fun w hw => by rw [F1.2 45 w rfl]; exact hx w hw)
  have F0 : fr gRA gRB mi ml (ab_ui mi 40 0 0) ml := fr.rf.ui _ rfl
  have Fa := F0.tr (gR_cu F1)
  refine ⟨a1, b1, s1, ?_⟩
  have loop : ∀ k zz, LW T f k zz n z → ∀ m l, RM T zz m l → (zz.1 = 0 → m 40 16 = nI k) → k ≤ 12 → m 40 2 = 0 → (zz.1 = 0 → rowM f k m l) → fr gRA gRB mi ml m l → W_X12_law_14 (cs ro 39) ro Q m l := by
    intro k zz A
    refine A.2 (fun k zz => ∀ m l, RM T zz m l → (zz.1 = 0 → m 40 16 = nI k) → k ≤ 12 → m 40 2 = 0 → (zz.1 = 0 → rowM f k m l) → fr gRA gRB mi ml m l → W_X12_law_14 (cs ro 39) ro Q m l) ?_ ?_ ?_
    · intro m l R e16 h12 e2 hr F
      refine vc_X12_law_14 m l ?_
      obtain ⟨j, K⟩ := R.tk
      have hj := K.2.1
      have hz := R.2.2.1
      have hl := srO_l (tK T z.2)
      rw [R.2.1, K.1, nI_clamp (by omega), K.2.2.2.1, xe_0 (by omega), xe_0 (by omega), srO_0, xg_0 (by omega)]
      have fl : ¬ z.1 = 0 → Q (some (.int (nI z.1))) (ab_G m l) := fun c => hQ _ _ ⟨e2, fun _ => F, fun q => absurd q c⟩
      have ok : z.1 = 0 → W_X12_law_62 (cs ro 39) ro Q 0 (ab_ui m 40 12 (m 40 16)) l := fun c => by
        rw [e16 c]
        exact m_copy h12 (e16 c) e2 (hr c) F (fun mi' ml' q1 q2 => by
        have := hQ mi' ml' ⟨q1, fun q => absurd c q, fun _ => q2⟩
        rw [c] at this; exact this)
      refine ⟨fun c0 => ⟨in_of (by omega) (by decide), fun _ => ⟨fun q => absurd q (by omega), fun _ => ok c0⟩, fun cK => absurd A.1 (by omega)⟩, fun c0 => ⟨fun _ => fl c0, fun q => absurd (by omega) q⟩⟩
    · intro k zz z1 b lo hi h0 hK hk12 ln hf ih m l R e16 h12 e2 hr F
      refine vc_X12_law_14 m l ?_
      obtain ⟨j, K⟩ := R.tk
      have hj := K.2.1
      have hz := R.2.2.1
      have hl := srO_l (tK T zz.2)
      rw [R.2.1, K.1, nI_clamp (by omega), K.2.2.2.1, xe_0 (by omega), xe_0 (by omega), srO_0]
      refine ⟨fun _ => ⟨in_of (by omega) (by decide), fun q => absurd q hK, fun _ => ?_⟩, fun q => absurd h0 q⟩
      have ezz : (0, zz.2) = zz := by rw [← h0]
      obtain ⟨m', l', s', R', F', LMx⟩ := m_line (ro := ro) (d := 8) Z (R.e0 h0) (e16 h0) hk12 (by rw [ezz]; exact ln)
      have e2' : m' 40 2 = 0 := LMx.2.2.trans e2
      refine ⟨m', l', s', ih m' l' R' (fun z0 => (LMx.1 z0).1) (by omega) e2' (fun z0 j hj => ?_) (F.tr F')⟩
      have v := LMx.1 z0
      by_cases e : j = k
      · rw [e, hf z0]; exact v.2
      · rw [(LMx.2.1 j e).1, (LMx.2.1 j e).2.1, (LMx.2.1 j e).2.2]; exact hr h0 j (by omega)
    · intro k zz h0 hK hk12 ih m l R e16 h12 e2 hr F
      refine vc_X12_law_14 m l ?_
      obtain ⟨j, K⟩ := R.tk
      have hj := K.2.1
      have hz := R.2.2.1
      have hl := srO_l (tK T zz.2)
      have k12 : k = 12 := by omega
      rw [R.2.1, K.1, nI_clamp (by omega), K.2.2.2.1, xe_0 (by omega), xe_0 (by omega), srO_0]
      refine ⟨fun _ => ⟨in_of (by omega) (by decide), fun q => absurd q hK, fun _ => ?_⟩, fun q => absurd h0 q⟩
      obtain ⟨m', l', s', R', F'⟩ := m_line12 (ro := ro) (d := 8) Z h0 R (by rw [e16 h0, k12]; rfl)
      have nz : ¬ (tooz T zz).1 = 0 := by unfold tooz; exact flz_n _ (by split <;> decide)
      exact ⟨m', l', s', ih m' l' R' (fun q => absurd q nz) h12 ((F'.1 40 2 rfl).trans e2) (fun q => absurd q nz) (F.tr (gR_mr F'))⟩
  refine loop 0 (0, 0) h _ _ (R1.of (by funext j; simp [ui_app]) (by funext j; simp [ui_app]) (by simp [ui_app]) (by simp [ui_app]) rfl rfl) (fun _ => by simp [ui_app]; rfl) (by decide) (by simp [ui_app]; exact e2) (fun _ j hj => absurd hj (Nat.not_lt_zero j)) (Fa.ui _ rfl)
end LB
