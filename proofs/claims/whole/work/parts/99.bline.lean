/-! A line read, the reference's side. -/
section ML
variable {ro : ab_E} {d : Nat} {mi mi' m1 m2 : cM1} {ml ml' l1 l2 : cM2} {T : tSt} {z z1 : Nat × Nat} {lo hi : Int64} {b : Bool}
theorem RM.of (R : RM T z mi ml) (h42 : mi' 42 = mi 42) (h43 : mi' 43 = mi 43) (e7 : mi' 40 7 = mi 40 7) (e8 : mi' 40 8 = mi 40 8) (h44 : ml' 44 = ml 44) (h45 : ml' 45 = ml 45) : RM T z mi' ml' := by
  obtain ⟨⟨N, j, h1, h2', h3, h4, h5, h6, h7⟩, h8, h9, h10⟩ := R
  refine ⟨⟨N, j, h1, h2', h3, fun i hi => ?_, h5, h6, e7.trans h7⟩, e8.trans h8, h9, fun w hw => by rw [h45]; exact h10 w hw⟩
  have := h4 i hi
  unfold row at this ⊢
  rw [h42, h43, h44]; exact this
/-- the rows of a line read -/
def LM (n : Nat) (b : Bool) (lo hi : Int64) (z : Nat × Nat) (mi : cM1) (ml : cM2) (mi' : cM1) (ml' : cM2) : Prop := (z.1 = 0 → mi' 40 16 = nI (n + 1) ∧ mi' 49 n = bI (!b) ∧ ml' 50 n = lo ∧ ml' 51 n = hi) ∧ (∀ j, ¬ j = n → mi' 49 j = mi 49 j ∧ ml' 50 j = ml 50 j ∧ ml' 51 j = ml 51 j) ∧ mi' 40 2 = mi 40 2
set_option maxHeartbeats 2000000 in
theorem m_line (Z : tOK T) {p n : Nat} (R : RM T (0, p) mi ml) (hn : mi 40 16 = nI n) (h12 : n < 12) (ln : LN T (0, p) z1 b lo hi) : ∃ mi' ml', cS ro (d + 31) 169 [.ref 40] mi ml none mi' ml' ∧ RM T z1 mi' ml' ∧ fr gRA gRB mi ml mi' ml' ∧ LM n b lo hi z1 mi ml mi' ml' := by
  rcases ln with ⟨_, hb, z2, sy, rfl⟩ | ⟨c, _⟩
  case inr => exact absurd rfl c
  have hb : b = pB (wdP T 1 p) := hb
  refine ab_ex_q rfl rfl (fun Q hQ => vc_X12_readLine_0 mi ml ?_)
  have e8 : mi 40 8 = nI 0 := R.2.1
  have w0 := m_isWord (ro := ro) (d := d + 29) (w := 0) (v := 0) Z rfl (by decide) R
  have w1 := m_isWord (ro := ro) (d := d + 29) (w := 1) (v := 1) Z rfl (by decide) R
  have in13 : vp_in (nI n) 13 := in_of (by omega) (by decide)
  have n0 : ¬ (0 : Int32) < mi 40 8 := by rw [e8]; decide
  have en : nI n + 1 = nI (n + 1) := nI_1 n
  -- the line itself
  have body : (wdP T 0 p ∨ wdP T 1 p) → ((0 < mi 40 8) → Q none (ab_G mi ml)) ∧ (¬ (0 < mi 40 8) → ∃ (r : Int32) (m9 : cM1) (l10 : cM2), cS ro (d + 30) 155 [.ref 40, .int 0] mi ml (some (.int r)) m9 l10 ∧ (vp_in (mi 40 16) 13 ∧ ∃ (m12 : cM1) (l13 : cM2), cS ro (d + 30) 163 [.ref 40, .int 0] (ab_ui (ab_ui m9 49 (mi 40 16).toNatClampNeg (vp_nar .boolean r)) 40 7 (m9 40 7 + 1)) l10 none m12 l13 ∧ (vp_in (m12 40 16) 13 ∧ (vp_in (m12 40 16) 13 ∧ ∃ (m14 : cM1) (l15 : cM2), cS ro (d + 30) 156 [.ref 40, .int 59] (ab_ui m12 40 16 (m12 40 16 + 1)) (ab_ul (ab_ul l13 50 (m12 40 16).toNatClampNeg (l13 40 10)) 51 (m12 40 16).toNatClampNeg (l13 40 11)) none m14 l15 ∧ Q none (ab_G m14 l15))))) := fun w => by
    refine ⟨fun q => absurd q n0, fun _ => ⟨_, mi, ml, w0, ?_⟩⟩
    rw [hn, nI_clamp (by omega)]
    have y : wdP T (if b = true then 1 else 0) p := by
      cases hbb : b with
      | true => rw [if_pos rfl]; exact pB_iff.1 (hb.symm.trans hbb)
      | false =>
        rw [if_neg (by decide)]
        have : ¬ wdP T 1 p := pB_f.1 (hb.symm.trans hbb)
        exact w.elim id (fun h => absurd h this)
    have ez : wdz T (if b = true then 1 else 0) (0, p) = stz T (0, p) := by unfold wdz; rw [if_pos ⟨rfl, pB_iff.2 y⟩]
    rw [ez] at sy
    have e0 : pI ((0, p).1 = 0 ∧ wdP T (wm 0) (0, p).2) = bI (!b) := by
      cases hbb : b with
      | true =>
        have y1 : wdP T 1 p := pB_iff.1 (hb.symm.trans hbb)
        rw [pI_0 (fun h => absurd (wd_u (by decide) (by decide) h.2 y1) (by decide))]; rfl
      | false =>
        rw [hbb, if_neg (by decide)] at y
        rw [pI_1 ⟨rfl, y⟩]; rfl
    rw [e0, nar_b]
    refine ⟨in13, ?_⟩
    have Rs : RM T (stz T (0, p)) (ab_ui (ab_ui mi 49 n (bI (!b))) 40 7 (mi 40 7 + 1)) ml := (R.st (by show ¬ tK T p = 0; rw [y.1]; decide)).of (by funext j; simp [ui_app]) (by funext j; simp [ui_app]) (by simp [ui_app]) (by simp [ui_app]) rfl rfl
    obtain ⟨a2, b2, s2, P⟩ := m_say (ro := ro) (d := d) Z sy Rs
    have e16 : a2 40 16 = nI n := by rw [P.2.2.1 40 16 rfl]; simp [ui_app]; exact hn
    refine ⟨a2, b2, s2, ?_⟩
    rw [e16, nI_clamp (by omega), en]
    have R3 : RM T z2 (ab_ui a2 40 16 (nI (n + 1))) (ab_ul (ab_ul b2 50 n (b2 40 10)) 51 n (b2 40 11)) := P.1.of (by funext j; simp [ui_app]) (by funext j; simp [ui_app]) (by simp [ui_app]) (by simp [ui_app]) (by funext j; simp [ul_app]) (by funext j; simp [ul_app])
    obtain ⟨a4, s4, R4, F4⟩ := m_takeSign (ro := ro) (d := d + 28) (ml := ab_ul (ab_ul b2 50 n (b2 40 10)) 51 n (b2 40 11)) (k := 6) (c := 59) (v := 59) Z rfl (Or.inr (Or.inr ⟨rfl, rfl⟩)) R3
    have Fa : fr gRA gRB mi ml (ab_ui (ab_ui mi 49 n (bI (!b))) 40 7 (mi 40 7 + 1)) ml := (fr.rf.ui _ rfl).ui _ rfl
    have Fb := Fa.tr (gR_mr P.2.2)
    have Fc : fr gRA gRB mi ml (ab_ui a2 40 16 (nI (n + 1))) (ab_ul (ab_ul b2 50 n (b2 40 10)) 51 n (b2 40 11)) := ((Fb.ui _ rfl).ul _ rfl).ul _ rfl
    refine ⟨in13, in13, a4, _, s4, hQ _ _ ⟨R4, Fc.tr (gR_mr F4), fun q => ?_, fun j hj => ?_, ?_⟩⟩
    · have v := P.2.1 (sg_0 q)
      refine ⟨?_, ?_, ?_, ?_⟩
      · rw [F4.1 40 16 rfl]; simp [ui_app]
      · rw [F4.1 49 n rfl, ui_app, if_neg (by decide), P.2.2.1 49 n rfl]; simp [ui_app]
      · rw [v.1]; simp [ul_app]
      · rw [v.2]; simp [ul_app]
    · refine ⟨?_, ?_, ?_⟩
      · rw [F4.1 49 j rfl, ui_app, if_neg (by decide), P.2.2.1 49 j rfl]; simp [ui_app, hj]
      · simp [ul_app, hj]; exact P.2.2.2 50 j rfl
      · simp [ul_app, hj]; exact P.2.2.2 51 j rfl
    · rw [F4.1 40 2 rfl, ui_app, if_pos rfl, if_neg (by decide), P.2.2.1 40 2 rfl]; simp [ui_app]
  have n12 : ¬ mi 40 16 = 12 := by rw [hn, xe_12 (by omega)]; omega
  refine ⟨_, mi, ml, w0, fun c0 => ⟨_, mi, ml, w1, fun c1 => ?_, fun c1 => ⟨fun q => absurd q n12, fun _ => body (Or.inr (Classical.not_not.1 (fun h => c1 (pI_e0.2 h))).2)⟩⟩, fun c0 => ⟨fun q => absurd q n12, fun _ => body (Or.inl (Classical.not_not.1 (fun h => c0 (pI_e0.2 h))).2)⟩⟩
  -- no line
  have x0 : ¬ wdP T 0 p := fun h => pI_e0.1 c0 ⟨rfl, h⟩
  have x1 : ¬ wdP T 1 p := fun h => pI_e0.1 c1 ⟨rfl, h⟩
  have b0 : b = false := by rw [hb]; exact pB_f.2 x1
  have ez : wdz T (if b = true then 1 else 0) (0, p) = flz T 1 (0, p) := by
    rw [b0]; unfold wdz; rw [if_neg (fun h => x0 (pB_iff.1 h.2))]
  rw [ez] at sy
  have nz := flz_n (T := T) (z := (0, p)) 1 (by decide)
  have e2 : z2 = flz T 1 (0, p) := by
    rcases sy with ⟨c, _⟩ | ⟨_, h⟩
    · exact absurd c nz
    · exact h
  rw [e2, sg_f nz] at hQ
  obtain ⟨a4, g1, g2, g3⟩ := m_wrong (ro := ro) (d := d + 29) (v := 1) Z (k := 1) rfl (by decide) R
  have hb2 := g2.2.2.1
  refine ⟨a4, ml, g1, ?_⟩
  have f0 : (0 : Int32) < a4 40 8 := by rw [g2.2.1, xg_0 (by omega)]; omega
  exact ⟨fun _ => hQ _ _ ⟨g2, gR_mr g3, fun q => absurd q nz, fun j _ => ⟨g3.1 49 j rfl, rfl, rfl⟩, g3.1 40 2 rfl⟩, fun q => absurd f0 q⟩
/-- a line too many -/
theorem m_line12 (Z : tOK T) (c0 : z.1 = 0) (R : RM T z mi ml) (hn : mi 40 16 = 12) : ∃ mi' ml', cS ro (d + 31) 169 [.ref 40] mi ml none mi' ml' ∧ RM T (tooz T z) mi' ml' ∧ fr mrA mrB mi ml mi' ml' := by
  refine ab_ex_q rfl rfl (fun Q hQ => vc_X12_readLine_0 mi ml ?_)
  have w0 := m_isWord (ro := ro) (d := d + 29) (w := 0) (v := 0) Z rfl (by decide) R
  have w1 := m_isWord (ro := ro) (d := d + 29) (w := 1) (v := 1) Z rfl (by decide) R
  have out : ∀ (k : Nat) (v : Int32), v = nI k → k < 16 → 0 < k → tooz T z = flz T k z → ∃ a4, cS ro (d + 30) 153 [.ref 40, .int v] mi ml none a4 ml ∧ (0 < a4 40 8) ∧ Q none (ab_G a4 ml) := fun k v hv hk h0 e => by
    obtain ⟨a4, g1, g2, g3⟩ := m_wrong (ro := ro) (d := d + 29) (v := v) Z hv hk R
    have hb2 := g2.2.2.1
    have := flz_n (T := T) (z := z) k h0
    refine ⟨a4, g1, by rw [g2.2.1, xg_0 (by omega)]; omega, hQ _ _ ⟨by rw [e]; exact g2, g3⟩⟩
  refine ⟨_, mi, ml, w0, fun q0 => ⟨_, mi, ml, w1, fun q1 => ?_, fun q1 => ⟨fun _ => ?_, fun q => absurd hn q⟩⟩, fun q0 => ⟨fun _ => ?_, fun q => absurd hn q⟩⟩
  · obtain ⟨a4, g1, g2, g3⟩ := out 1 1 rfl (by decide) (by decide) (by unfold tooz; rw [if_neg (fun h => (pB_iff.1 h).elim (fun g => pI_e0.1 q0 ⟨c0, g⟩) (fun g => pI_e0.1 q1 ⟨c0, g⟩))])
    exact ⟨a4, ml, g1, fun _ => g3, fun q => absurd g2 q⟩
  · obtain ⟨a4, g1, g2, g3⟩ := out 5 5 rfl (by decide) (by decide) (by unfold tooz; rw [if_pos (pB_iff.2 (Or.inr (show wdP T 1 z.2 from (Classical.not_not.1 (fun h => q1 (pI_e0.2 h))).2)))])
    exact ⟨a4, ml, g1, fun _ => g3, fun q => absurd g2 q⟩
  · obtain ⟨a4, g1, g2, g3⟩ := out 5 5 rfl (by decide) (by decide) (by unfold tooz; rw [if_pos (pB_iff.2 (Or.inl (show wdP T 0 z.2 from (Classical.not_not.1 (fun h => q0 (pI_e0.2 h))).2)))])
    exact ⟨a4, ml, g1, fun _ => g3, fun q => absurd g2 q⟩
end ML
