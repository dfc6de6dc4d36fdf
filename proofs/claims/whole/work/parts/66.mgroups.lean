/-! The reference finds its groups: the loop. -/
section MH
variable {ro : ab_E} {d : Nat} {ti mi vi mi' : cM1} {tl ml vl ml' : cM2}
theorem kpt.ui {a : Nat} {b : List Nat} (h : kpt tl a b mi ml) {k j : Nat} (v : Int32) (hk : ¬ 72 = k) : kpt tl a b (ab_ui mi k j v) ml := by
  refine ⟨h.1, h.2.1, ?_, h.2.2.2⟩
  rw [ui_app, if_neg hk]; exact h.2.2.1
/-- the groups among the first i wishes are found -/
def FS (ti : cM1) (tl : cM2) (l : List Nat) (i : Nat) (mi : cM1) (ml : cM2) : Prop := mi 40 45 = nI l.length ∧ (∀ v, v < i → mi 68 v = ofG ti tl v) ∧ (∀ g, g < l.length → mi 69 g = nI (l.getD g 0)) ∧ ∀ g, g < l.length → kpt tl g (bp ti (fun x => x = l.getD g 0)) mi ml
set_option maxHeartbeats 2000000 in
theorem s_findGroups (O : okT ti) (OM : okM ti tl) (H : eqM ti tl vi vl mi ml) : ∃ mi' ml', cS ro (d + 4) 198 [.ref 40] mi ml none mi' ml' ∧ fr fgI fgL mi ml mi' ml' ∧ mP ti tl vi vl mi' ml' := by
  have hW := O.W2
  refine ab_ex_q rfl rfl (fun Q hQ => vc_X12_findGroups_0 mi ml ?_)
  refine up0 (n := nW ti) (F := fun i => ∀ mi1 ml1, fr fgI fgL mi ml mi1 ml1 → FS ti tl (ldr ti tl i) i mi1 ml1 → W_X12_findGroups_7 (cs ro (d + 3)) ro Q (nI i) mi1 ml1) (fun i hi ih mi1 ml1 F S => ?_) (fun mi1 ml1 F S => ?_) _ _ (fr.rf.ui 0 rfl) ⟨by simp [ui_app]; rfl, fun v hv => absurd hv (Nat.not_lt_zero v), fun g hg => absurd hg (Nat.not_lt_zero g), fun g hg => absurd hg (Nat.not_lt_zero g)⟩
  · refine vc_X12_findGroups_7 _ mi1 ml1 ?_
    have H1 := eqM_fg H F
    have hlen := ldr_le ti tl i
    have hlt := ldr_lt ti tl i
    have hs := ldr_s ti tl i
    have hgix : gix ti tl i = (ldr ti tl i).findIdx (fun v => pB (sameP ti tl v i)) := rfl
    generalize ldr ti tl i = l at *
    have hget : ∀ g, g < l.length → l.getD g 0 < nW ti := fun g hg => by
      have := (hlt _ (mem_get hg)).1; omega
    have F2 : fr fgI fgL mi ml (ab_ui mi1 68 i (-1)) ml1 := F.ui _ rfl
    have H2 := eqM_fg H F2
    have S2 : FS ti tl l i (ab_ui mi1 68 i (-1)) ml1 := ⟨by simp [ui_app]; exact S.1, fun v hv => by rw [ui_app, if_pos rfl, if_neg (by omega)]; exact S.2.1 v hv, fun g hg => by rw [ui_app, if_neg (by decide)]; exact S.2.2.1 g hg, fun g hg => (S.2.2.2 g hg).ui _ (by decide)⟩
    have e68 : (ab_ui mi1 68 i (-1)) 68 i = -1 := by simp [ui_app]
    simp (disch := omega) only [H1.s20, OM.s20, O.W, hi, nI_ltI, nI_eq, nI_clamp, nI_1, xl_0, xg_0, xe_0, xe_m1, nI_0, xl_1, xl_2, xl_3, xl_4, xl_5, xl_6, xl_7, xl_8, xl_9, xl_10, xl_12, xl_20, xl_30, xl_32, xl_40, xl_41, xl_42, xl_48, xl_57, xl_59, xl_64, xl_97, xl_100, xl_122, xl_126, xl_128, xl_1000, xl_9999, xg_1, xg_2, xg_3, xg_4, xg_5, xg_6, xg_7, xg_8, xg_9, xg_10, xg_12, xg_20, xg_30, xg_32, xg_40, xg_41, xg_42, xg_48, xg_57, xg_59, xg_64, xg_97, xg_100, xg_122, xg_126, xg_128, xg_1000, xg_9999, xe_1, xe_2, xe_3, xe_4, xe_5, xe_6, xe_7, xe_8, xe_9, xe_10, xe_12, xe_20, xe_30, xe_32, xe_40, xe_41, xe_42, xe_48, xe_57, xe_59, xe_64, xe_97, xe_100, xe_122, xe_126, xe_128, xe_1000, xe_9999, true_implies, false_implies, not_true_eq_false, not_false_eq_true, and_true, true_and, forall_const, imp_self, lc_eq, implies_true, vin, Bool.true_eq_false, Bool.false_eq_true, false_and, and_false, or_false, false_or, or_true, true_or]
    generalize ab_ui mi1 68 i (-1) = mi2 at *
    refine ⟨_, _, _, s_misSeen O OM H2 (nI i), ?_⟩
    have eseen : (∃ w, w < nW ti ∧ nI i = nI w ∧ seenP ti w) ↔ seenP ti i := by
      constructor
      · rintro ⟨v, h1, h2, h3⟩
        rw [nI_eq (by omega) (by omega)] at h2
        rw [h2]; exact h3
      · exact fun h => ⟨i, hi, rfl, h⟩
    rw [pI_e0, eseen]
    refine ⟨fun c => ?_, fun c => ?_⟩
    · refine ih _ _ F2 ?_
      have : pB (seenP ti i ∧ ∀ v ∈ l, ¬ sameP ti tl v i) = false := pB_f.2 (fun h => c h.1)
      rw [hs, this]
      refine ⟨S2.1, fun v hv => ?_, S2.2.2⟩
      rcases Nat.lt_or_eq_of_le (Nat.le_of_lt_succ hv) with e | e
      · exact S2.2.1 v e
      · rw [e, e68]; unfold ofG; rw [pB_f.2 c]; rfl
    · have c' := Classical.not_not.1 c
      rw [S2.1]
      obtain ⟨mi3, ml3, s1, F3, K3, k68, k69, k45, R3⟩ := s_keepsLaw (ro := ro) (d := d) O OM H2 hi (a := l.length) (by omega)
      refine ⟨_, _, s1, ?_⟩
      have hlen42 : ∀ v, (mys tl (bp ti (fun x => x = v))).length ≤ 42 := fun v => Nat.le_trans (List.length_filter_le _ _) (bp_len O)
      have S3 : FS ti tl l i mi3 ml3 := by
        refine ⟨k45.trans S2.1, fun v hv => by rw [k68]; exact S2.2.1 v hv, fun g hg => by rw [k69]; exact S2.2.2.1 g hg, fun g hg => ?_⟩
        obtain ⟨r1, r2, r3, r4⟩ := R3 g (by omega)
        obtain ⟨q1, q2, q3, q4⟩ := S2.2.2.2 g hg
        refine ⟨r2.trans q1, r3.trans q2, r1.trans q3, fun j hj => ?_⟩
        have hj42 : j < 42 := by have := hlen42 (l.getD g 0); omega
        rw [(r4 j hj42).1, (r4 j hj42).2]
        exact q4 j hj
      have F4 := F2.tr F3
      have e683 : mi3 68 i = -1 := by rw [k68]; exact e68
      rw [S3.1]
      -- down the groups
      have inner : ∀ g, g ≤ l.length → ∀ mi4, fr fgI fgL mi ml mi4 ml3 → FS ti tl l i mi4 ml3 → kpt tl l.length (bp ti (fun x => x = i)) mi4 ml3 → ((mi4 68 i = -1 ∧ ∀ h, g ≤ h → h < l.length → ¬ sameP ti tl (l.getD h 0) i) ∨ ∃ h, g ≤ h ∧ h < l.length ∧ sameP ti tl (l.getD h 0) i ∧ (∀ k, g ≤ k → k < h → ¬ sameP ti tl (l.getD k 0) i) ∧ mi4 68 i = nI h) → W_X12_findGroups_46 (cs ro (d + 3)) ro Q (nI i) (nI g + (-1)) mi4 ml3 := by
        intro g
        induction g with
        | zero =>
          intro _ mi4 F5 S5 K5 hc
          refine vc_X12_findGroups_46 _ _ mi4 ml3 ?_
          rw [show nI 0 + (-1) = -1 from by decide]
          rcases hc with ⟨e5, hno⟩ | ⟨h, _, h2, h3, h4, e5⟩
          · have hfi : l.findIdx (fun v => pB (sameP ti tl v i)) = l.length := by
              rw [List.findIdx_eq_length]
              intro v hv
              obtain ⟨k, k1, k2⟩ := get_mem hv
              rw [← k2]
              exact pB_f.2 (hno k (Nat.zero_le k) k1)
            have eof : ofG ti tl i = nI l.length := by rw [ofG_ldr c', hgix, hfi]
            simp (disch := omega) only [m1_neg, e5, S5.1, nI_ltI, nI_eq, nI_clamp, nI_1, xl_0, xg_0, xe_0, xe_m1, nI_0, xl_1, xl_2, xl_3, xl_4, xl_5, xl_6, xl_7, xl_8, xl_9, xl_10, xl_12, xl_20, xl_30, xl_32, xl_40, xl_41, xl_42, xl_48, xl_57, xl_59, xl_64, xl_97, xl_100, xl_122, xl_126, xl_128, xl_1000, xl_9999, xg_1, xg_2, xg_3, xg_4, xg_5, xg_6, xg_7, xg_8, xg_9, xg_10, xg_12, xg_20, xg_30, xg_32, xg_40, xg_41, xg_42, xg_48, xg_57, xg_59, xg_64, xg_97, xg_100, xg_122, xg_126, xg_128, xg_1000, xg_9999, xe_1, xe_2, xe_3, xe_4, xe_5, xe_6, xe_7, xe_8, xe_9, xe_10, xe_12, xe_20, xe_30, xe_32, xe_40, xe_41, xe_42, xe_48, xe_57, xe_59, xe_64, xe_97, xe_100, xe_122, xe_126, xe_128, xe_1000, xe_9999, true_implies, false_implies, not_true_eq_false, not_false_eq_true, and_true, true_and, forall_const, imp_self, lc_eq, implies_true, vin, Bool.true_eq_false, Bool.false_eq_true, false_and, and_false, or_false, false_or, or_true, true_or]
            refine ih _ _ (((F5.ui _ rfl).ui _ rfl).ui _ rfl) ?_
            have : pB (seenP ti i ∧ ∀ v ∈ l, ¬ sameP ti tl v i) = true := pB_iff.2 ⟨c', fun v hv => by
              obtain ⟨k, k1, k2⟩ := get_mem hv
              rw [← k2]
              exact hno k (Nat.zero_le k) k1⟩
            rw [hs, this]
            show FS ti tl (l ++ [i]) (i + 1) _ _
            have hl2 : (l ++ [i]).length = l.length + 1 := by simp
            refine ⟨by rw [hl2]; simp [ui_app], fun v hv => ?_, fun g hg => ?_, fun g hg => ?_⟩
            · simp only [ui_app]
              by_cases e : v = i
              · simp [e, eof]
              · simp [e]; exact S5.2.1 v (by omega)
            · rw [hl2] at hg
              rw [getD_snoc]
              simp only [ui_app]
              by_cases e : g = l.length
              · simp [e]
              · have : g < l.length := by omega
                simp [e, this]; simpa [this] using S5.2.2.1 g this
            · rw [hl2] at hg
              rw [getD_snoc]
              by_cases e : g = l.length
              · rw [if_neg (by omega), if_pos e, e]
                exact ((K5.ui _ (by decide)).ui _ (by decide)).ui _ (by decide)
              · rw [if_pos (by omega)]
                exact (((S5.2.2.2 g (by omega)).ui _ (by decide)).ui _ (by decide)).ui _ (by decide)
          · have hfi : l.findIdx (fun v => pB (sameP ti tl v i)) = h := by
              rw [List.findIdx_eq h2]
              refine ⟨?_, fun j hj => ?_⟩
              · rw [← gD h2]; exact pB_iff.2 h3
              · rw [← gD (by omega)]; exact pB_f.2 (h4 j (Nat.zero_le j) hj)
            have eof : ofG ti tl i = nI h := by rw [ofG_ldr c', hgix, hfi]
            simp (disch := omega) only [m1_neg, e5, nI_ltI, nI_eq, nI_clamp, nI_1, xl_0, xg_0, xe_0, xe_m1, nI_0, xl_1, xl_2, xl_3, xl_4, xl_5, xl_6, xl_7, xl_8, xl_9, xl_10, xl_12, xl_20, xl_30, xl_32, xl_40, xl_41, xl_42, xl_48, xl_57, xl_59, xl_64, xl_97, xl_100, xl_122, xl_126, xl_128, xl_1000, xl_9999, xg_1, xg_2, xg_3, xg_4, xg_5, xg_6, xg_7, xg_8, xg_9, xg_10, xg_12, xg_20, xg_30, xg_32, xg_40, xg_41, xg_42, xg_48, xg_57, xg_59, xg_64, xg_97, xg_100, xg_122, xg_126, xg_128, xg_1000, xg_9999, xe_1, xe_2, xe_3, xe_4, xe_5, xe_6, xe_7, xe_8, xe_9, xe_10, xe_12, xe_20, xe_30, xe_32, xe_40, xe_41, xe_42, xe_48, xe_57, xe_59, xe_64, xe_97, xe_100, xe_122, xe_126, xe_128, xe_1000, xe_9999, true_implies, false_implies, not_true_eq_false, not_false_eq_true, and_true, true_and, forall_const, imp_self, lc_eq, implies_true, vin, Bool.true_eq_false, Bool.false_eq_true, false_and, and_false, or_false, false_or, or_true, true_or]
            refine ih _ _ F5 ?_
            have : pB (seenP ti i ∧ ∀ v ∈ l, ¬ sameP ti tl v i) = false := pB_f.2 (fun q => q.2 _ (mem_get h2) h3)
            rw [hs, this]
            refine ⟨S5.1, fun v hv => ?_, S5.2.2⟩
            rcases Nat.lt_or_eq_of_le (Nat.le_of_lt_succ hv) with e | e
            · exact S5.2.1 v e
            · rw [e, e5, eof]
        | succ g ih2 =>
          intro hg mi4 F5 S5 K5 hc
          refine vc_X12_findGroups_46 _ _ mi4 ml3 ?_
          have hg2 : g < l.length := by omega
          have hsame := s_areSame (ro := ro) (d := d + 1) O OM (eqM_fg H F5) (g := g) (a := l.length) (by omega) (by omega) (hget g hg2) hi (S5.2.2.1 g hg2) (S5.2.2.2 g hg2) K5
          rw [nI_am1 (Nat.succ_pos g), show g + 1 - 1 = g from rfl, S5.1]
          simp (disch := omega) only [nI_ltI, nI_eq, nI_clamp, nI_1, xl_0, xg_0, xe_0, xe_m1, nI_0, xl_1, xl_2, xl_3, xl_4, xl_5, xl_6, xl_7, xl_8, xl_9, xl_10, xl_12, xl_20, xl_30, xl_32, xl_40, xl_41, xl_42, xl_48, xl_57, xl_59, xl_64, xl_97, xl_100, xl_122, xl_126, xl_128, xl_1000, xl_9999, xg_1, xg_2, xg_3, xg_4, xg_5, xg_6, xg_7, xg_8, xg_9, xg_10, xg_12, xg_20, xg_30, xg_32, xg_40, xg_41, xg_42, xg_48, xg_57, xg_59, xg_64, xg_97, xg_100, xg_122, xg_126, xg_128, xg_1000, xg_9999, xe_1, xe_2, xe_3, xe_4, xe_5, xe_6, xe_7, xe_8, xe_9, xe_10, xe_12, xe_20, xe_30, xe_32, xe_40, xe_41, xe_42, xe_48, xe_57, xe_59, xe_64, xe_97, xe_100, xe_122, xe_126, xe_128, xe_1000, xe_9999, true_implies, false_implies, not_true_eq_false, not_false_eq_true, and_true, true_and, forall_const, imp_self, lc_eq, implies_true, vin, Bool.true_eq_false, Bool.false_eq_true, false_and, and_false, or_false, false_or, or_true, true_or]
          have up1 : ∀ x : Int32, FS ti tl l i (ab_ui mi4 68 i x) ml3 ∧ kpt tl l.length (bp ti (fun x => x = i)) (ab_ui mi4 68 i x) ml3 ∧ fr fgI fgL mi ml (ab_ui mi4 68 i x) ml3 := fun x => ⟨⟨by simp [ui_app]; exact S5.1, fun v hv => by rw [ui_app, if_pos rfl, if_neg (by omega)]; exact S5.2.1 v hv, fun g hg => by rw [ui_app, if_neg (by decide)]; exact S5.2.2.1 g hg, fun g hg => (S5.2.2.2 g hg).ui _ (by decide)⟩, K5.ui _ (by decide), F5.ui _ rfl⟩
          refine ⟨_, _, _, hsame, ?_⟩
          rw [pI_e0]
          refine ⟨fun c5 => ?_, fun c5 => ?_⟩
          · refine ih2 (by omega) _ (up1 _).2.2 (up1 _).1 (up1 _).2.1 ?_
            have e6 : ab_ui mi4 68 i (mi4 68 i) 68 i = mi4 68 i := by simp [ui_app]
            rw [e6]
            rcases hc with ⟨e5, hno⟩ | ⟨h, h1, h2, h3, h4, e5⟩
            · refine Or.inl ⟨e5, fun h h1 h2 => ?_⟩
              rcases Nat.lt_or_eq_of_le h1 with e | e
              · exact hno h e h2
              · rw [← e]; exact c5
            · refine Or.inr ⟨h, by omega, h2, h3, fun k k1 k2 => ?_, e5⟩
              rcases Nat.lt_or_eq_of_le k1 with e | e
              · exact h4 k e k2
              · rw [← e]; exact c5
          · refine ih2 (by omega) _ (up1 _).2.2 (up1 _).1 (up1 _).2.1 (Or.inr ⟨g, Nat.le_refl g, hg2, Classical.not_not.1 c5, fun k k1 k2 => absurd k2 (by omega), by simp [ui_app]⟩)
      have q := inner l.length (Nat.le_refl _) mi3 F4 S3 K3 (Or.inl ⟨e683, fun h h1 h2 => absurd h2 (by omega)⟩)
      rw [← Int32.sub_eq_add_neg] at q
      exact q
  · refine vc_X12_findGroups_7 _ mi1 ml1 ?_
    have H1 := eqM_fg H F
    simp (disch := omega) only [H1.s20, OM.s20, O.W, Nat.lt_irrefl, nI_ltI, nI_eq, nI_clamp, nI_1, xl_0, xg_0, xe_0, xe_m1, nI_0, xl_1, xl_2, xl_3, xl_4, xl_5, xl_6, xl_7, xl_8, xl_9, xl_10, xl_12, xl_20, xl_30, xl_32, xl_40, xl_41, xl_42, xl_48, xl_57, xl_59, xl_64, xl_97, xl_100, xl_122, xl_126, xl_128, xl_1000, xl_9999, xg_1, xg_2, xg_3, xg_4, xg_5, xg_6, xg_7, xg_8, xg_9, xg_10, xg_12, xg_20, xg_30, xg_32, xg_40, xg_41, xg_42, xg_48, xg_57, xg_59, xg_64, xg_97, xg_100, xg_122, xg_126, xg_128, xg_1000, xg_9999, xe_1, xe_2, xe_3, xe_4, xe_5, xe_6, xe_7, xe_8, xe_9, xe_10, xe_12, xe_20, xe_30, xe_32, xe_40, xe_41, xe_42, xe_48, xe_57, xe_59, xe_64, xe_97, xe_100, xe_122, xe_126, xe_128, xe_1000, xe_9999, true_implies, false_implies, not_true_eq_false, not_false_eq_true, and_true, true_and, forall_const, imp_self, lc_eq, implies_true, vin, Bool.true_eq_false, Bool.false_eq_true, false_and, and_false, or_false, false_or, or_true, true_or]
    exact hQ _ _ ⟨F, H1, S.1, S.2.1, S.2.2.1⟩
end MH
