/-! The reference: what touches, what goes together. -/
def mG (ti : cM1) (tl : cM2) (mi : cM1) : Prop := mi 40 45 = nI (nG ti tl) ∧ (∀ w, w < nW ti → mi 68 w = ofG ti tl w) ∧ (∀ g, g < nG ti tl → mi 69 g = nI (led ti tl g))
def mP (ti : cM1) (tl : cM2) (vi : cM1) (vl : cM2) (mi : cM1) (ml : cM2) : Prop := eqM ti tl vi vl mi ml ∧ mG ti tl mi
section MG
variable {ro : ab_E} {d : Nat} {ti mi vi mi' : cM1} {tl ml vl ml' : cM2}
theorem mP.fr (M : mP ti tl vi vl mi ml) (h : fr bfI bfL mi ml mi' ml') : mP ti tl vi vl mi' ml' := by
  refine ⟨M.1.fr h, ?_, fun w hw => ?_, fun g hg => ?_⟩
  · rw [h.1 40 45 rfl]; exact M.2.1
  · rw [h.1 68 w rfl]; exact M.2.2.1 w hw
  · rw [h.1 69 g rfl]; exact M.2.2.2 g hg
theorem fr_67 (h : ∀ k, ¬ k = 67 → mi' k = mi k) : fr bfI bfL mi ml mi' ml := ⟨fun k j q => by rw [h k (fun e => by rw [e] at q; cases q)], fun _ _ _ => rfl⟩
theorem m1_neg : ((-1 : Int32) < 0) = True := eq_true (by decide)
theorem s_mview (O : okT ti) (OM : okM ti tl) (H : eqM ti tl vi vl mi ml) : cS ro (d + 1) 181 [.ref 40] mi ml (some (.int (cSeen ti))) mi ml := by
  refine ab_sem_q rfl rfl (fun Q hQ => vc_X12_viewDay_0 mi ml ?_)
  rw [H.s34, H.s35, OM.s34, OM.s35]
  obtain ⟨dd, h1, h2, h3⟩ := O.d
  unfold cSeen at hQ
  rcases h3 with h3 | ⟨e, h3, h4⟩
  · rw [h3, m1_neg]
    rw [h3, if_pos rfl] at hQ
    exact ⟨fun _ => hQ, fun h => absurd trivial h⟩
  · rw [h4, xl_0 (by omega)]
    rw [h4, if_neg (by rw [xe_m1 (by omega)]; exact id)] at hQ
    exact ⟨fun h => absurd h id, fun _ => hQ⟩
theorem s_misWish (O : okT ti) (OM : okM ti tl) (H : eqM ti tl vi vl mi ml) (x : Int32) : cS ro (d + 1) 182 [.ref 40, .int x] mi ml (some (.int (pI (∃ w, w < nW ti ∧ x = nI w)))) mi ml := by
  have hW := O.W2
  refine ab_sem_q rfl rfl (fun Q hQ => vc_X12_isWish_0 _ mi ml ?_)
  rw [H.s20, OM.s20, O.W]
  rcases dx x with h | ⟨n, hn, rfl⟩
  · rw [pI_0] at hQ
    · exact ⟨fun _ => hQ, fun q => absurd h q⟩
    · rintro ⟨w, h1, e⟩
      rw [e, xl_0 (by omega)] at h; exact h
  · simp (disch := omega) only [nI_ltI, nI_eq, nI_clamp, nI_1, xl_0, xg_0, xe_0, xe_m1, nI_0, xl_1, xl_2, xl_3, xl_4, xl_5, xl_6, xl_7, xl_8, xl_9, xl_10, xl_12, xl_20, xl_30, xl_32, xl_40, xl_41, xl_42, xl_48, xl_57, xl_59, xl_64, xl_97, xl_100, xl_122, xl_126, xl_128, xl_1000, xl_9999, xg_1, xg_2, xg_3, xg_4, xg_5, xg_6, xg_7, xg_8, xg_9, xg_10, xg_12, xg_20, xg_30, xg_32, xg_40, xg_41, xg_42, xg_48, xg_57, xg_59, xg_64, xg_97, xg_100, xg_122, xg_126, xg_128, xg_1000, xg_9999, xe_1, xe_2, xe_3, xe_4, xe_5, xe_6, xe_7, xe_8, xe_9, xe_10, xe_12, xe_20, xe_30, xe_32, xe_40, xe_41, xe_42, xe_48, xe_57, xe_59, xe_64, xe_97, xe_100, xe_122, xe_126, xe_128, xe_1000, xe_9999, true_implies, false_implies, not_true_eq_false, not_false_eq_true, and_true, true_and, forall_const, imp_self, lc_eq, implies_true, vin, Bool.true_eq_false, Bool.false_eq_true, false_and, and_false, or_false, false_or, or_true, true_or]
    refine ⟨fun c => ?_, fun c => ?_⟩
    · rw [pI_1 ⟨n, c, rfl⟩] at hQ; exact hQ
    · rw [pI_0] at hQ
      · exact hQ
      · rintro ⟨w, h1, e⟩
        rw [nI_eq hn (by omega)] at e
        omega
theorem gone_neg (O : okT ti) {w : Nat} (hw : w < nW ti) : (ti 17 w < 0) = (ti 17 w = -1) := by
  obtain ⟨_, _, _, _, h⟩ := O.w w hw
  rcases h with h | ⟨e, h1, h2⟩
  · rw [h, m1_neg]; simp
  · rw [h2, xl_0 (by omega), xe_m1 (by omega)]
theorem tgt_neg (O : okT ti) {w : Nat} (hw : w < nW ti) : (ti 14 w < 0) = (ti 14 w = -1) := by
  have hL := O.L2
  obtain ⟨_, h, _⟩ := O.w w hw
  rcases h with ⟨_, h⟩ | ⟨_, l, hl, h⟩
  · rw [h, m1_neg]; simp
  · rw [h, xl_0 (by omega), xe_m1 (by omega)]
theorem s_misSeen (O : okT ti) (OM : okM ti tl) (H : eqM ti tl vi vl mi ml) (x : Int32) : cS ro (d + 2) 183 [.ref 40, .int x] mi ml (some (.int (pI (∃ w, w < nW ti ∧ x = nI w ∧ seenP ti w)))) mi ml := by
  have hW := O.W2
  refine ab_sem_q rfl rfl (fun Q hQ => vc_X12_isSeen_0 _ mi ml ⟨_, _, _, s_misWish O OM H x, ?_⟩)
  rw [pI_e0]
  refine ⟨fun c => ?_, fun c => ?_⟩
  · rw [pI_0 (fun ⟨w, h1, h2, _⟩ => c ⟨w, h1, h2⟩)] at hQ; exact hQ
  · obtain ⟨w, hw, rfl⟩ := Classical.not_not.1 c
    have eq1 : (∃ v, v < nW ti ∧ nI w = nI v ∧ seenP ti v) ↔ seenP ti w := by
      constructor
      · rintro ⟨v, h1, h2, h3⟩
        rw [nI_eq (by omega) (by omega)] at h2
        rw [h2]; exact h3
      · exact fun h => ⟨w, hw, rfl, h⟩
    rw [pI_iff eq1] at hQ
    obtain ⟨_, _, _, e58, e59⟩ := OM.w w hw
    simp (disch := omega) only [H.e58, H.e59, e58, e59, nI_ltI, nI_eq, nI_clamp, nI_1, xl_0, xg_0, xe_0, xe_m1, nI_0, xl_1, xl_2, xl_3, xl_4, xl_5, xl_6, xl_7, xl_8, xl_9, xl_10, xl_12, xl_20, xl_30, xl_32, xl_40, xl_41, xl_42, xl_48, xl_57, xl_59, xl_64, xl_97, xl_100, xl_122, xl_126, xl_128, xl_1000, xl_9999, xg_1, xg_2, xg_3, xg_4, xg_5, xg_6, xg_7, xg_8, xg_9, xg_10, xg_12, xg_20, xg_30, xg_32, xg_40, xg_41, xg_42, xg_48, xg_57, xg_59, xg_64, xg_97, xg_100, xg_122, xg_126, xg_128, xg_1000, xg_9999, xe_1, xe_2, xe_3, xe_4, xe_5, xe_6, xe_7, xe_8, xe_9, xe_10, xe_12, xe_20, xe_30, xe_32, xe_40, xe_41, xe_42, xe_48, xe_57, xe_59, xe_64, xe_97, xe_100, xe_122, xe_126, xe_128, xe_1000, xe_9999, true_implies, false_implies, not_true_eq_false, not_false_eq_true, and_true, true_and, forall_const, imp_self, lc_eq, implies_true, vin, Bool.true_eq_false, Bool.false_eq_true, false_and, and_false, or_false, false_or, or_true, true_or]
    refine ⟨_, _, _, s_mview O OM H, fun c2 => ?_, fun c2 => ?_⟩
    · rw [pI_0 (fun h => h.1 c2)] at hQ; exact hQ
    · rw [H.e59, e59, gone_neg O hw]
      refine ⟨fun c3 => ?_, fun c3 => ⟨_, _, _, s_mview O OM H, fun c4 => ?_, fun c4 => ?_⟩⟩
      · rw [pI_1 ⟨c2, Or.inl c3⟩] at hQ; exact hQ
      · rw [pI_1 ⟨c2, Or.inr c4⟩] at hQ; exact hQ
      · rw [pI_0 (fun h => h.2.elim c3 c4)] at hQ; exact hQ
theorem bI_eq (a b : Bool) : (bI (!a) = bI (!b)) = (a = b) := by cases a <;> cases b <;> simp [bI]
theorem s_mtouch (O : okT ti) (OM : okM ti tl) (M : mP ti tl vi vl mi ml) {g h : Nat} (hg : g < nG ti tl) (hh : h < nG ti tl) : cS ro (d + 1) 211 [.ref 40, .int (nI g), .int (nI h)] mi ml (some (.int (pI (touP ti tl (led ti tl g) (led ti tl h))))) mi ml := by
  have hW := O.W2
  have hG := nG_le ti tl
  have H := M.1
  have lg := (led_lt ti tl hg).1
  have lh := (led_lt ti tl hh).1
  have e1 := M.2.2.2 g hg
  have e2 := M.2.2.2 h hh
  refine ab_sem_q rfl rfl (fun Q hQ => vc_X12_touch_0 _ _ mi ml ?_)
  obtain ⟨v1, v2, _⟩ := OM.w _ lg
  obtain ⟨w1, w2, _⟩ := OM.w _ lh
  simp (disch := omega) only [e1, e2, H.e52, H.e53, H.e54, H.f55, H.f56, v1, v2, w1, w2, tgt_neg O lg, nI_ltI, nI_eq, nI_clamp, nI_1, xl_0, xg_0, xe_0, xe_m1, nI_0, xl_1, xl_2, xl_3, xl_4, xl_5, xl_6, xl_7, xl_8, xl_9, xl_10, xl_12, xl_20, xl_30, xl_32, xl_40, xl_41, xl_42, xl_48, xl_57, xl_59, xl_64, xl_97, xl_100, xl_122, xl_126, xl_128, xl_1000, xl_9999, xg_1, xg_2, xg_3, xg_4, xg_5, xg_6, xg_7, xg_8, xg_9, xg_10, xg_12, xg_20, xg_30, xg_32, xg_40, xg_41, xg_42, xg_48, xg_57, xg_59, xg_64, xg_97, xg_100, xg_122, xg_126, xg_128, xg_1000, xg_9999, xe_1, xe_2, xe_3, xe_4, xe_5, xe_6, xe_7, xe_8, xe_9, xe_10, xe_12, xe_20, xe_30, xe_32, xe_40, xe_41, xe_42, xe_48, xe_57, xe_59, xe_64, xe_97, xe_100, xe_122, xe_126, xe_128, xe_1000, xe_9999, true_implies, false_implies, not_true_eq_false, not_false_eq_true, and_true, true_and, forall_const, imp_self, lc_eq, implies_true, vin, Bool.true_eq_false, Bool.false_eq_true, false_and, and_false, or_false, false_or, or_true, true_or]
  refine ⟨fun c1 => ⟨fun c2 => ?_, fun c2 => ⟨fun c3 => ⟨fun c4 => ?_, fun c4 => ?_⟩, fun c3 => ?_⟩⟩, fun c1 => ?_⟩
  · rw [pI_0 (fun h => h.1 c2)] at hQ; exact hQ
  · obtain ⟨q1, q2, q3⟩ := OM.n _ lg (Or.inl c4)
    obtain ⟨r1, r2, r3⟩ := OM.n _ lh (Or.inl (c3 ▸ c4))
    rw [q1, q2, q3, r1, r2, r3, bI_eq]
    refine ⟨fun c5 => ⟨fun c6 => ⟨fun c7 => ?_, fun c7 => ?_⟩, fun c6 => ?_⟩, fun c5 => ?_⟩
    · rw [pI_0 (fun h => h.2.2.elim (fun h => h c3) (fun h => h.2 ⟨c5, c6, c7⟩))] at hQ; exact hQ
    · rw [pI_1 ⟨c2, c1, Or.inr ⟨c4, fun h => c7 h.2.2⟩⟩] at hQ; exact hQ
    · rw [pI_1 ⟨c2, c1, Or.inr ⟨c4, fun h => c6 h.2.1⟩⟩] at hQ; exact hQ
    · rw [pI_1 ⟨c2, c1, Or.inr ⟨c4, fun h => c5 h.1⟩⟩] at hQ; exact hQ
  · rw [pI_0 (fun h => h.2.2.elim (fun h => h c3) (fun h => c4 h.1))] at hQ; exact hQ
  · rw [pI_1 ⟨c2, c1, Or.inl c3⟩] at hQ; exact hQ
  · rw [pI_0 (fun h => c1 h.2.1)] at hQ; exact hQ
theorem s_takesGroups (O : okT ti) (M : mP ti tl vi vl mi ml) (x : Int32) : ∃ mi', cS ro (d + 2) 210 [.ref 40, .int x] mi ml none mi' ml ∧ tkK (gK ti tl (b3 x)) mi' ∧ ∀ k, ¬ k = 67 → mi' k = mi k := by
  have hW := O.W2
  have hG := nG_le ti tl
  have key : ∃ mi' ml', cS ro (d + 2) 210 [.ref 40, .int x] mi ml none mi' ml' ∧ (ml' = ml ∧ tkK (gK ti tl (b3 x)) mi' ∧ ∀ k, ¬ k = 67 → mi' k = mi k) := by
    obtain ⟨mi1, s1, T1, K1⟩ := s_takesNone (ro := ro) (d := d) mi ml
    refine ab_ex_q rfl rfl (fun Q hQ => vc_X12_takesGroups_0 _ mi ml ⟨_, _, s1, ?_⟩)
    refine up0 (n := nG ti tl) (F := fun i => ∀ mi1, tkK (gKn ti tl (b3 x) i) mi1 → (∀ k, ¬ k = 67 → mi1 k = mi k) → W_X12_takesGroups_6 (cs ro (d + 1)) ro Q x (nI i) mi1 ml) (fun i hi ih mi1 T K => ?_) (fun mi1 T K => ?_) mi1 (fun w hw => by rw [T1 w hw]; exact pI_iff ⟨fun h => h.elim, fun ⟨g, hg, _⟩ => absurd hg (Nat.not_lt_zero g)⟩) K1
    · refine vc_X12_takesGroups_6 _ _ mi1 ml ?_
      have e45 : mi1 40 45 = nI (nG ti tl) := by rw [K 40 (by decide)]; exact M.2.1
      have e69 : mi1 69 i = nI (led ti tl i) := by rw [K 69 (by decide)]; exact M.2.2.2 i hi
      have li := (led_lt ti tl hi).1
      simp (disch := omega) only [e45, hi, e69, b3_a0, b3_a1, nar_1, nI_ltI, nI_eq, nI_clamp, nI_1, xl_0, xg_0, xe_0, xe_m1, nI_0, xl_1, xl_2, xl_3, xl_4, xl_5, xl_6, xl_7, xl_8, xl_9, xl_10, xl_12, xl_20, xl_30, xl_32, xl_40, xl_41, xl_42, xl_48, xl_57, xl_59, xl_64, xl_97, xl_100, xl_122, xl_126, xl_128, xl_1000, xl_9999, xg_1, xg_2, xg_3, xg_4, xg_5, xg_6, xg_7, xg_8, xg_9, xg_10, xg_12, xg_20, xg_30, xg_32, xg_40, xg_41, xg_42, xg_48, xg_57, xg_59, xg_64, xg_97, xg_100, xg_122, xg_126, xg_128, xg_1000, xg_9999, xe_1, xe_2, xe_3, xe_4, xe_5, xe_6, xe_7, xe_8, xe_9, xe_10, xe_12, xe_20, xe_30, xe_32, xe_40, xe_41, xe_42, xe_48, xe_57, xe_59, xe_64, xe_97, xe_100, xe_122, xe_126, xe_128, xe_1000, xe_9999, true_implies, false_implies, not_true_eq_false, not_false_eq_true, and_true, true_and, forall_const, imp_self, lc_eq, implies_true, vin, Bool.true_eq_false, Bool.false_eq_true, false_and, and_false, or_false, false_or, or_true, true_or]
      refine ⟨fun c => ih _ (fun w hw => ?_) (fun k hk => ?_), fun c => ih _ (fun w hw => ?_) K⟩
      · rw [ui_app, if_pos rfl]
        by_cases e : w = led ti tl i
        · rw [if_pos e, pI_1 ⟨i, by omega, c, e.symm⟩]
        · rw [if_neg e, T w hw]
          apply pI_iff
          constructor
          · rintro ⟨g, h1, h2⟩; exact ⟨g, by omega, h2⟩
          · rintro ⟨g, h1, h2, h3⟩
            rcases Nat.lt_or_eq_of_le (Nat.le_of_lt_succ h1) with q | q
            · exact ⟨g, q, h2, h3⟩
            · rw [q] at h3; exact absurd h3.symm e
      · rw [← K k hk]; funext j; rw [ui_app, if_neg hk]
      · rw [T w hw]
        apply pI_iff
        constructor
        · rintro ⟨g, h1, h2⟩; exact ⟨g, by omega, h2⟩
        · rintro ⟨g, h1, h2, h3⟩
          rcases Nat.lt_or_eq_of_le (Nat.le_of_lt_succ h1) with q | q
          · exact ⟨g, q, h2, h3⟩
          · rw [q] at h2; exact absurd h2 c
    · refine vc_X12_takesGroups_6 _ _ mi1 ml ?_
      have e45 : mi1 40 45 = nI (nG ti tl) := by rw [K 40 (by decide)]; exact M.2.1
      simp (disch := omega) only [e45, Nat.lt_irrefl, nI_ltI, nI_eq, nI_clamp, nI_1, xl_0, xg_0, xe_0, xe_m1, nI_0, xl_1, xl_2, xl_3, xl_4, xl_5, xl_6, xl_7, xl_8, xl_9, xl_10, xl_12, xl_20, xl_30, xl_32, xl_40, xl_41, xl_42, xl_48, xl_57, xl_59, xl_64, xl_97, xl_100, xl_122, xl_126, xl_128, xl_1000, xl_9999, xg_1, xg_2, xg_3, xg_4, xg_5, xg_6, xg_7, xg_8, xg_9, xg_10, xg_12, xg_20, xg_30, xg_32, xg_40, xg_41, xg_42, xg_48, xg_57, xg_59, xg_64, xg_97, xg_100, xg_122, xg_126, xg_128, xg_1000, xg_9999, xe_1, xe_2, xe_3, xe_4, xe_5, xe_6, xe_7, xe_8, xe_9, xe_10, xe_12, xe_20, xe_30, xe_32, xe_40, xe_41, xe_42, xe_48, xe_57, xe_59, xe_64, xe_97, xe_100, xe_122, xe_126, xe_128, xe_1000, xe_9999, true_implies, false_implies, not_true_eq_false, not_false_eq_true, and_true, true_and, forall_const, imp_self, lc_eq, implies_true, vin, Bool.true_eq_false, Bool.false_eq_true, false_and, and_false, or_false, false_or, or_true, true_or]
      exact hQ _ _ ⟨rfl, T, K⟩
  obtain ⟨mi', ml', h1, rfl, h2, h3⟩ := key
  exact ⟨mi', h1, h2, h3⟩
/-- what stands behind a law laid by the groups S -/
def lwS (ti : cM1) (tl : cM2) (S : Nat → Bool) (mi : cM1) (ml : cM2) : Prop := mi 40 36 = nI (pcn (lawS ti tl S) 42) ∧ ml 40 40 = oA tl (lawS ti tl S) ∧ ml 40 41 = oB tl (lawS ti tl S) ∧ mi 40 42 = cQ tl (lawS ti tl S)
theorem s_tg_builds (O : okT ti) (OM : okM ti tl) (M : mP ti tl vi vl mi ml) (x : Int32) (hn : ntS ti tl (b3 x)) : ∃ mi1 mi2 ml2, cS ro (d + 2) 210 [.ref 40, .int x] mi ml none mi1 ml ∧ cS ro (d + 2) 187 [.ref 40] mi1 ml none mi2 ml2 ∧ fr bfI bfL mi ml mi2 ml2 ∧ lwS ti tl (b3 x) mi2 ml2 := by
  obtain ⟨mi1, s1, T1, K1⟩ := s_takesGroups (ro := ro) (d := d) O M x
  have F1 : fr bfI bfL mi ml mi1 ml := fr_67 K1
  obtain ⟨mi2, ml2, s2, F2, _, h1, h2, h3, h4, _⟩ := s_builds (ro := ro) (d := d) O OM (M.fr F1).1 T1
  have hu := uq_gK O hn
  rw [bp_cnt O hu] at h1
  rw [mem_bp O hu] at h2 h3 h4
  exact ⟨mi1, mi2, ml2, s1, s2, F1.tr F2, h1, h2, h3, h4⟩
set_option maxHeartbeats 1000000 in
theorem s_goTogether (O : okT ti) (OM : okM ti tl) (M : mP ti tl vi vl mi ml) (x : Int32) : ∃ mi' ml', cS ro (d + 3) 212 [.ref 40, .int x] mi ml (some (.int (pI (goeP ti tl (b3 x))))) mi' ml' ∧ fr bfI bfL mi ml mi' ml' := by
  have hW := O.W2
  have hG := nG_le ti tl
  refine ab_ex_q rfl rfl (fun Q hQ => vc_X12_goTogether_0 _ mi ml ?_)
  refine up0 (n := nG ti tl) (F := fun i => (∀ g h, g < i → h < g → b3 x g = true → b3 x h = true → ¬ touP ti tl (led ti tl g) (led ti tl h)) → W_X12_goTogether_2 (cs ro (d + 2)) ro Q x (nI i) mi ml) (fun i hi ih hno => ?_) (fun hno => ?_) (fun g h hg => absurd hg (Nat.not_lt_zero g))
  · refine vc_X12_goTogether_2 _ _ mi ml ?_
    simp (disch := omega) only [M.2.1, hi, nI_ltI, nI_eq, nI_clamp, nI_1, xl_0, xg_0, xe_0, xe_m1, nI_0, xl_1, xl_2, xl_3, xl_4, xl_5, xl_6, xl_7, xl_8, xl_9, xl_10, xl_12, xl_20, xl_30, xl_32, xl_40, xl_41, xl_42, xl_48, xl_57, xl_59, xl_64, xl_97, xl_100, xl_122, xl_126, xl_128, xl_1000, xl_9999, xg_1, xg_2, xg_3, xg_4, xg_5, xg_6, xg_7, xg_8, xg_9, xg_10, xg_12, xg_20, xg_30, xg_32, xg_40, xg_41, xg_42, xg_48, xg_57, xg_59, xg_64, xg_97, xg_100, xg_122, xg_126, xg_128, xg_1000, xg_9999, xe_1, xe_2, xe_3, xe_4, xe_5, xe_6, xe_7, xe_8, xe_9, xe_10, xe_12, xe_20, xe_30, xe_32, xe_40, xe_41, xe_42, xe_48, xe_57, xe_59, xe_64, xe_97, xe_100, xe_122, xe_126, xe_128, xe_1000, xe_9999, true_implies, false_implies, not_true_eq_false, not_false_eq_true, and_true, true_and, forall_const, imp_self, lc_eq, implies_true, vin, Bool.true_eq_false, Bool.false_eq_true, false_and, and_false, or_false, false_or, or_true, true_or]
    refine up0 (n := i) (F := fun o => (∀ h, h < o → b3 x i = true → b3 x h = true → ¬ touP ti tl (led ti tl i) (led ti tl h)) → W_X12_goTogether_12 (cs ro (d + 2)) ro Q x (nI i) (nI o) mi ml) (fun o ho ih2 hno2 => ?_) (fun hno2 => ?_) (fun h hh => absurd hh (Nat.not_lt_zero h))
    · refine vc_X12_goTogether_12 _ _ _ mi ml ?_
      have hn : (b3 x i = true → b3 x o = true → ¬ touP ti tl (led ti tl i) (led ti tl o)) → ∀ h, h < o + 1 → b3 x i = true → b3 x h = true → ¬ touP ti tl (led ti tl i) (led ti tl h) := fun q h hh => by
        rcases Nat.lt_or_eq_of_le (Nat.le_of_lt_succ hh) with e | e
        · exact hno2 h e
        · rw [e]; exact q
      simp (disch := omega) only [ho, b3_a1, nI_ltI, nI_eq, nI_clamp, nI_1, xl_0, xg_0, xe_0, xe_m1, nI_0, xl_1, xl_2, xl_3, xl_4, xl_5, xl_6, xl_7, xl_8, xl_9, xl_10, xl_12, xl_20, xl_30, xl_32, xl_40, xl_41, xl_42, xl_48, xl_57, xl_59, xl_64, xl_97, xl_100, xl_122, xl_126, xl_128, xl_1000, xl_9999, xg_1, xg_2, xg_3, xg_4, xg_5, xg_6, xg_7, xg_8, xg_9, xg_10, xg_12, xg_20, xg_30, xg_32, xg_40, xg_41, xg_42, xg_48, xg_57, xg_59, xg_64, xg_97, xg_100, xg_122, xg_126, xg_128, xg_1000, xg_9999, xe_1, xe_2, xe_3, xe_4, xe_5, xe_6, xe_7, xe_8, xe_9, xe_10, xe_12, xe_20, xe_30, xe_32, xe_40, xe_41, xe_42, xe_48, xe_57, xe_59, xe_64, xe_97, xe_100, xe_122, xe_126, xe_128, xe_1000, xe_9999, true_implies, false_implies, not_true_eq_false, not_false_eq_true, and_true, true_and, forall_const, imp_self, lc_eq, implies_true, vin, Bool.true_eq_false, Bool.false_eq_true, false_and, and_false, or_false, false_or, or_true, true_or]
      refine ⟨fun c => ⟨fun c2 => ⟨_, _, _, s_mtouch O OM M hi (by omega), ?_⟩, fun c2 => ih2 (hn (fun _ q => absurd q c2))⟩, fun c => ih2 (hn (fun q => absurd q c))⟩
      rw [pI_e0]
      refine ⟨fun c3 => ih2 (hn (fun _ _ => c3)), fun c3 => ?_⟩
      rw [pI_0 (fun q => q.1 i o hi (by omega) c c2 (Classical.not_not.1 c3))] at hQ
      exact hQ _ _ fr.rf
    · refine vc_X12_goTogether_12 _ _ _ mi ml ?_
      simp (disch := omega) only [Nat.lt_irrefl, nI_ltI, nI_eq, nI_clamp, nI_1, xl_0, xg_0, xe_0, xe_m1, nI_0, xl_1, xl_2, xl_3, xl_4, xl_5, xl_6, xl_7, xl_8, xl_9, xl_10, xl_12, xl_20, xl_30, xl_32, xl_40, xl_41, xl_42, xl_48, xl_57, xl_59, xl_64, xl_97, xl_100, xl_122, xl_126, xl_128, xl_1000, xl_9999, xg_1, xg_2, xg_3, xg_4, xg_5, xg_6, xg_7, xg_8, xg_9, xg_10, xg_12, xg_20, xg_30, xg_32, xg_40, xg_41, xg_42, xg_48, xg_57, xg_59, xg_64, xg_97, xg_100, xg_122, xg_126, xg_128, xg_1000, xg_9999, xe_1, xe_2, xe_3, xe_4, xe_5, xe_6, xe_7, xe_8, xe_9, xe_10, xe_12, xe_20, xe_30, xe_32, xe_40, xe_41, xe_42, xe_48, xe_57, xe_59, xe_64, xe_97, xe_100, xe_122, xe_126, xe_128, xe_1000, xe_9999, true_implies, false_implies, not_true_eq_false, not_false_eq_true, and_true, true_and, forall_const, imp_self, lc_eq, implies_true, vin, Bool.true_eq_false, Bool.false_eq_true, false_and, and_false, or_false, false_or, or_true, true_or]
      refine ih (fun g h hg hh => ?_)
      rcases Nat.lt_or_eq_of_le (Nat.le_of_lt_succ hg) with e | e
      · exact hno g h e hh
      · rw [e]; rw [e] at hh; exact hno2 h hh
  · refine vc_X12_goTogether_2 _ _ mi ml ?_
    have hn : ntS ti tl (b3 x) := fun g h hg hh sg sh q => by
      rcases Nat.lt_trichotomy g h with e | e | e
      · exact hno h g hh e sh sg (touP_symm q)
      · rw [e] at q; exact touP_irr ti tl _ q
      · exact hno g h hg e sg sh q
    obtain ⟨mi1, mi2, ml2, s1, s2, F, L⟩ := s_tg_builds (ro := ro) (d := d) O OM M x hn
    simp (disch := omega) only [M.2.1, Nat.lt_irrefl, nI_ltI, nI_eq, nI_clamp, nI_1, xl_0, xg_0, xe_0, xe_m1, nI_0, xl_1, xl_2, xl_3, xl_4, xl_5, xl_6, xl_7, xl_8, xl_9, xl_10, xl_12, xl_20, xl_30, xl_32, xl_40, xl_41, xl_42, xl_48, xl_57, xl_59, xl_64, xl_97, xl_100, xl_122, xl_126, xl_128, xl_1000, xl_9999, xg_1, xg_2, xg_3, xg_4, xg_5, xg_6, xg_7, xg_8, xg_9, xg_10, xg_12, xg_20, xg_30, xg_32, xg_40, xg_41, xg_42, xg_48, xg_57, xg_59, xg_64, xg_97, xg_100, xg_122, xg_126, xg_128, xg_1000, xg_9999, xe_1, xe_2, xe_3, xe_4, xe_5, xe_6, xe_7, xe_8, xe_9, xe_10, xe_12, xe_20, xe_30, xe_32, xe_40, xe_41, xe_42, xe_48, xe_57, xe_59, xe_64, xe_97, xe_100, xe_122, xe_126, xe_128, xe_1000, xe_9999, true_implies, false_implies, not_true_eq_false, not_false_eq_true, and_true, true_and, forall_const, imp_self, lc_eq, implies_true, vin, Bool.true_eq_false, Bool.false_eq_true, false_and, and_false, or_false, false_or, or_true, true_or]
    refine ⟨_, _, s1, _, _, s2, ?_⟩
    rw [L.2.2.2]
    refine ⟨fun c => ?_, fun c => ?_⟩
    · rw [pI_1 ⟨hn, c⟩] at hQ; exact hQ _ _ F
    · rw [pI_0 (fun q => c q.2)] at hQ; exact hQ _ _ F
theorem s_mclashOf (O : okT ti) (OM : okM ti tl) (M : mP ti tl vi vl mi ml) {g h : Nat} (hg : g < nG ti tl) (hh : h < nG ti tl) : ∃ mi' ml', cS ro (d + 3) 213 [.ref 40, .int (nI g), .int (nI h)] mi ml (some (.int (claN ti tl g h))) mi' ml' ∧ fr bfI bfL mi ml mi' ml' := by
  have hW := O.W2
  have hG := nG_le ti tl
  refine ab_ex_q rfl rfl (fun Q hQ => vc_X12_clashOf_0 _ _ mi ml ⟨_, _, _, s_mtouch O OM M hg hh, ?_⟩)
  rw [pI_e0]
  unfold claN at hQ
  refine ⟨fun c => ?_, fun c => ?_⟩
  · rw [if_neg c] at hQ
    have e : b3 (((1 : Int32) <<< (nI g &&& 31)) ||| ((1 : Int32) <<< (nI h &&& 31))) = (fun i => decide (i = g) || decide (i = h)) := by
      funext i
      rw [b3_or, b3_bit (by omega), b3_bit (by omega)]
    obtain ⟨mi1, mi2, ml2, s1, s2, F, L⟩ := s_tg_builds (ro := ro) (d := d) O OM M (((1 : Int32) <<< (nI g &&& 31)) ||| ((1 : Int32) <<< (nI h &&& 31))) (by rw [e]; exact nt_two c)
    refine ⟨_, _, s1, _, _, s2, ?_⟩
    rw [L.2.2.2, e]
    exact hQ _ _ F
  · rw [if_pos (Classical.not_not.1 c)] at hQ
    exact hQ _ _ fr.rf
theorem s_buildsLaw (O : okT ti) (OM : okM ti tl) (H : eqM ti tl vi vl mi ml) : ∃ mi' ml', cS ro (d + 3) 190 [.ref 40] mi ml none mi' ml' ∧ fr bfI bfL mi ml mi' ml' ∧ mi' 40 36 = nI (nL ti) ∧ ml' 40 40 = oA tl (fun p => decide (p < nL ti)) ∧ ml' 40 41 = oB tl (fun p => decide (p < nL ti)) ∧ mi' 40 42 = cQ tl (fun p => decide (p < nL ti)) ∧ mi' 40 43 = (@ite _ (cQ tl (fun p => decide (p < nL ti)) = 3) (Classical.propDecidable _) (fI (vn tl (fun p => decide (p < nL ti)) (oA tl (fun p => decide (p < nL ti))) (oB tl (fun p => decide (p < nL ti)))) (nL ti)) (-1)) := by
  have hL := O.L2
  obtain ⟨mi1, s1, T1, K1⟩ := s_takesNone (ro := ro) (d := d + 1) mi ml
  have F1 : fr bfI bfL mi ml mi1 ml := fr_67 K1
  obtain ⟨mi2, ml2, s2, F2, _, h1, h2, h3, h4, h5, _⟩ := s_builds (ro := ro) (d := d) O OM (H.fr F1) T1
  have hu : uqK ti (fun _ => False) := uq_none (fun _ h => h)
  have e : LK ti (fun _ => False) = fun p => decide (p < nL ti) := funext (fun p => LK_none p (fun _ h => h))
  have eb : ∀ n, pre (bpl ti (fun _ => False)) n = List.range n := by
    intro n
    induction n with
    | zero => rfl
    | succ n ih =>
      have q : bpl ti (fun _ => False) n = [n] := by
        unfold bpl
        rw [lif_1 (fun ⟨w, _, h⟩ => h.1), if_pos (fI_none (fun j _ h => h.1))]
      rw [pre_s, ih, q, List.range_succ]
  have ea : ∀ n, pre (adl ti (fun _ => False)) n = [] := fun n => pre_nil (fun j _ => lif_0 (fun h => h.1))
  have ebp : bp ti (fun _ => False) = List.range (nL ti) := by unfold bp; rw [eb, ea, List.append_nil]
  have em : mem (List.range (nL ti)) = fun p => decide (p < nL ti) := by rw [← ebp, mem_bp O hu, e]
  rw [ebp, List.length_range] at h1
  rw [ebp, em] at h2 h3 h4
  rw [ebp, em, List.length_range] at h5
  refine ⟨mi2, ml2, ab_sem_q rfl rfl (fun Q hQ => vc_X12_buildsLaw_0 mi ml ⟨_, _, s1, _, _, s2, hQ⟩), F1.tr F2, h1, h2, h3, h4, ?_⟩
  have ek : ∀ k, k < nL ti → (vnk tl (List.range (nL ti)) k ↔ vn tl (fun p => decide (p < nL ti)) (oA tl (fun p => decide (p < nL ti))) (oB tl (fun p => decide (p < nL ti))) k) := fun k hk => by
    unfold vnk
    rw [em, gD (by rw [List.length_range]; exact hk), List.getElem_range]
  rw [h5, fI_congr ek]
  by_cases c : oA tl (fun p => decide (p < nL ti)) = 0 ∧ oB tl (fun p => decide (p < nL ti)) = 0
  · have q : cQ tl (fun p => decide (p < nL ti)) = 2 := by unfold cQ; rw [if_pos c]
    rw [if_pos c, if_neg (by rw [q]; decide)]
  · rw [if_neg c]
    by_cases c2 : ∃ p, p < 42 ∧ vn tl (fun p => decide (p < nL ti)) (oA tl (fun p => decide (p < nL ti))) (oB tl (fun p => decide (p < nL ti))) p
    · have q : cQ tl (fun p => decide (p < nL ti)) = 3 := by unfold cQ; rw [if_neg c, if_pos c2]
      rw [if_pos q]
    · have q : cQ tl (fun p => decide (p < nL ti)) = 0 := by unfold cQ; rw [if_neg c, if_neg c2]
      rw [if_neg (by rw [q]; decide), fI_none]
      exact fun j hj h => c2 ⟨j, by omega, h⟩
end MG
