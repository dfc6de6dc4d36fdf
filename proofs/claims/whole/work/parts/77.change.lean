/-! Calls that change what lasts. -/
section CH
variable {ro : ab_E} {d : Nat} {ti mi vi : cM1} {tl ml vl : cM2}
/-- the class's side marked stale -/
theorem rP.st (R : rP ti tl mi ml) : rP ti tl (ab_ui mi 0 12 1) ml := ⟨R.1.ui _ rfl, fun h => absurd h (by rw [ui_app, if_pos rfl, if_pos rfl]; decide)⟩
theorem st_1 (mi : cM1) : ¬ ab_ui mi 0 12 1 0 12 = 0 := by rw [ui_app, if_pos rfl, if_pos rfl]; decide
theorem op_days (x : Int32) : OP ro 103 179 [.int x] := by
  intro mi ml R
  obtain ⟨O, OM, K⟩ := R
  obtain ⟨dd, h1, h2, h3⟩ := O.d
  have R0 : rP mi ml mi ml := ⟨eqP.rf mi ml, K⟩
  by_cases c : (∃ w, w < 1000 + 1 ∧ x = nI w) ∧ ¬ (9999 - mi 1 0) < x
  · obtain ⟨cx, c2⟩ := c
    have cc := (rg (n := 1000) (by decide)).2 cx
    obtain ⟨n, hn, rfl⟩ := id cx
    have e99 : (9999 : Int32) - nI dd = nI (9999 - dd) := nI_m (a := 9999) (by omega)
    have c3 : dd + n ≤ 9999 := by
      rw [h2, e99, nI_ltI (by omega) (by omega)] at c2
      omega
    have ev : mi 1 0 + nI n = nI (dd + n) := by rw [h2, nI_add]
    have s1 : cS ro 40 103 [.ref 0, .int (nI n)] mi ml (some (.int (nI (dd + n)))) (ab_ui (ab_ui mi 1 0 (nI (dd + n))) 0 12 1) ml := by
      refine ab_sem_q rfl rfl (fun Q hQ => vc_X11_days_0 _ mi ml ⟨_, _, _, ab_sem_q rfl rfl (fun Q hQ => vc_X1_pass_0 _ mi ml ⟨fun q => absurd q cc.1, fun _ => ⟨fun q => absurd q cc.2, fun _ => ⟨fun q => absurd q c2, fun _ => hQ⟩⟩⟩), ?_⟩)
      rw [ev]; exact hQ
    have e34 : ab_ui (ab_ui (ab_ui mi 1 0 (nI (dd + n))) 0 12 1) 40 0 0 40 34 = mi 1 0 := OM.s34
    have s2 : cS ro 40 179 [.ref 40, .int (nI n)] (ab_ui (ab_ui mi 1 0 (nI (dd + n))) 0 12 1) ml (some (.int (nI (dd + n)))) (ab_ui (ab_ui (ab_ui (ab_ui mi 1 0 (nI (dd + n))) 0 12 1) 40 0 0) 40 34 (nI (dd + n))) ml := by
      refine ab_sem_q rfl rfl (fun Q hQ => vc_X12_days_0 _ _ ml ⟨_, _, _, s_withinN _ 1000 (by decide), ?_⟩)
      rw [pI_1 cx, e34, ev, xg_9999 (by omega)]
      exact ⟨fun q => (by cases q), fun _ => ⟨fun q => absurd q (by omega), fun _ => hQ⟩⟩
    refine ⟨_, _, _, _, _, s1, s2, ?_, ?_, fun h => absurd h (st_1 (ab_ui mi 1 0 (nI (dd + n))))⟩
    · refine ⟨O.1, O.2.1, O.2.2.1, O.2.2.2.1, O.w, O.c, O.g, O.h, O.y, ⟨dd + n, by omega, rfl, ?_⟩, O.t⟩
      rcases h3 with h3 | ⟨e, h3, h4⟩
      · exact Or.inl h3
      · exact Or.inr ⟨e, by omega, h4⟩
    · exact ⟨⟨OM.s12, OM.s20, OM.s30, rfl, OM.s35, OM.s69, OM.s2⟩, OM.l, OM.w, OM.n, OM.h, OM.g, OM.y, OM.c, OM.t, OM.x⟩
  · have s1 : cS ro 40 103 [.ref 0, .int x] mi ml (some (.int (-1))) (ab_ui mi 0 12 1) ml := by
      refine ab_sem_q rfl rfl (fun Q hQ => vc_X11_days_0 _ mi ml ⟨_, _, _, ab_sem_q rfl rfl (fun Q hQ => vc_X1_pass_0 _ mi ml ⟨fun _ => hQ, fun c1 => ⟨fun _ => hQ, fun c2 => ⟨fun _ => hQ, fun c3 => absurd ⟨(rg (n := 1000) (by decide)).1 ⟨c1, c2⟩, c3⟩ c⟩⟩⟩), hQ⟩)
    have e34 : ab_ui (ab_ui mi 0 12 1) 40 0 0 40 34 = mi 1 0 := OM.s34
    have s2 : cS ro 40 179 [.ref 40, .int x] (ab_ui mi 0 12 1) ml (some (.int (-1))) (ab_ui (ab_ui mi 0 12 1) 40 0 0) ml := by
      refine ab_sem_q rfl rfl (fun Q hQ => vc_X12_days_0 _ _ ml ⟨_, _, _, s_withinN _ 1000 (by decide), ?_⟩)
      rw [pI_e0, e34]
      refine ⟨fun _ => hQ, fun c1 => ⟨fun _ => hQ, fun c2 => ?_⟩⟩
      obtain ⟨n, hn, rfl⟩ := Classical.not_not.1 c1
      refine absurd ⟨⟨n, hn, rfl⟩, ?_⟩ c
      have e99 : (9999 : Int32) - nI dd = nI (9999 - dd) := nI_m (a := 9999) (by omega)
      rw [h2, nI_add, xg_9999 (by omega)] at c2
      rw [h2, e99, nI_ltI (by omega) (by omega)]
      omega
    exact ⟨_, _, _, _, _, s1, s2, Rel_q O OM R0.st (R0.st.m.t 0)⟩
theorem op_view (x : Int32) : OP ro 104 180 [.int x] := by
  intro mi ml R
  obtain ⟨O, OM, K⟩ := R
  obtain ⟨dd, h1, h2, h3⟩ := O.d
  have R0 : rP mi ml mi ml := ⟨eqP.rf mi ml, K⟩
  have e34 : ∀ m : cM1, m 40 34 = mi 1 0 → (m 40 34) = nI dd := fun m h => h.trans h2
  by_cases c : ∃ w, w < dd + 1 ∧ x = nI w
  · have cc := (rg (n := dd) (by omega)).2 c
    obtain ⟨n, hn, rfl⟩ := id c
    generalize hv : (if nI n = mi 1 0 then (-1 : Int32) else nI n) = v
    have hvv : v = -1 ∨ ∃ e, e < dd ∧ v = nI e := by
      rw [← hv, h2]
      by_cases q : nI n = nI dd
      · exact Or.inl (if_pos q)
      · rw [if_neg q]
        rw [nI_eq (by omega) (by omega)] at q
        exact Or.inr ⟨n, by omega, rfl⟩
    have s1 : cS ro 40 104 [.ref 0, .int (nI n)] mi ml (some (.int 1)) (ab_ui (ab_ui mi 1 1 v) 0 12 1) ml := by
      refine ab_sem_q rfl rfl (fun Q hQ => vc_X11_view_0 _ mi ml ⟨1, ab_ui mi 1 1 v, ml, ab_sem_q rfl rfl (fun Q hQ => vc_X1_turnTo_0 _ mi ml ⟨fun q => absurd q cc.1, fun _ => ⟨fun q => absurd q (h2 ▸ cc.2), fun _ => ⟨fun q => ?_, fun q => ?_⟩⟩⟩), Or.inr rfl, hQ⟩)
      · rw [if_pos q] at hv; rw [hv]; exact hQ
      · rw [if_neg q] at hv; rw [hv]; exact hQ
    have e34a : ab_ui (ab_ui mi 1 1 v) 0 12 1 40 34 = mi 1 0 := OM.s34
    have e34b : ab_ui (ab_ui (ab_ui mi 1 1 v) 0 12 1) 40 0 0 40 34 = mi 1 0 := OM.s34
    have s2 : cS ro 40 180 [.ref 40, .int (nI n)] (ab_ui (ab_ui mi 1 1 v) 0 12 1) ml (some (.int 1)) (ab_ui (ab_ui (ab_ui (ab_ui mi 1 1 v) 0 12 1) 40 0 0) 40 35 v) ml := by
      refine ab_sem_q rfl rfl (fun Q hQ => vc_X12_view_0 _ _ ml ?_)
      rw [e34a, h2]
      refine ⟨_, _, _, s_withinN _ dd (by omega), ?_⟩
      rw [pI_1 c, e34b]
      refine ⟨fun q => (by cases q), fun _ => ⟨fun q => ?_, fun q => ?_⟩⟩
      · rw [if_pos q] at hv; rw [hv]; exact hQ
      · rw [if_neg q] at hv; rw [hv]; exact hQ
    refine ⟨_, _, _, _, _, s1, s2, ?_, ?_, fun h => absurd h (st_1 (ab_ui mi 1 1 v))⟩
    · exact ⟨O.1, O.2.1, O.2.2.1, O.2.2.2.1, O.w, O.c, O.g, O.h, O.y, ⟨dd, h1, h2, hvv⟩, O.t⟩
    · exact ⟨⟨OM.s12, OM.s20, OM.s30, OM.s34, rfl, OM.s69, OM.s2⟩, OM.l, OM.w, OM.n, OM.h, OM.g, OM.y, OM.c, OM.t, OM.x⟩
  · have s1 : cS ro 40 104 [.ref 0, .int x] mi ml (some (.int 0)) (ab_ui mi 0 12 1) ml := by
      refine ab_sem_q rfl rfl (fun Q hQ => vc_X11_view_0 _ mi ml ⟨0, mi, ml, ab_sem_q rfl rfl (fun Q hQ => vc_X1_turnTo_0 _ mi ml ⟨fun _ => hQ, fun c1 => ⟨fun _ => hQ, fun c2 => ?_⟩⟩), Or.inl rfl, hQ⟩)
      rw [h2] at c2
      exact absurd ((rg (n := dd) (by omega)).1 ⟨c1, c2⟩) c
    have e34a : ab_ui mi 0 12 1 40 34 = mi 1 0 := OM.s34
    have s2 : cS ro 40 180 [.ref 40, .int x] (ab_ui mi 0 12 1) ml (some (.int 0)) (ab_ui (ab_ui mi 0 12 1) 40 0 0) ml := by
      refine ab_sem_q rfl rfl (fun Q hQ => vc_X12_view_0 _ _ ml ?_)
      rw [e34a, h2]
      refine ⟨_, _, _, s_withinN _ dd (by omega), ?_⟩
      rw [pI_0 c]
      exact ⟨fun _ => hQ, fun q => absurd rfl q⟩
    exact ⟨_, _, _, _, _, s1, s2, Rel_q O OM R0.st (R0.st.m.t 0)⟩
theorem op_withdraw (x : Int32) : OP ro 108 184 [.int x] := by
  intro mi ml R
  obtain ⟨O, OM, K⟩ := R
  have hW := O.W2
  obtain ⟨dd, h1, h2, h3⟩ := O.d
  have R0 : rP mi ml mi ml := ⟨eqP.rf mi ml, K⟩
  by_cases c : ∃ w, w < nW mi ∧ x = nI w ∧ mi 17 w = -1
  · obtain ⟨w, hw, rfl, hg⟩ := c
    have s1 : cS ro 40 108 [.ref 0, .int (nI w)] mi ml (some (.int 1)) (ab_ui (ab_ui mi 17 w (mi 1 0)) 0 12 1) ml := by
      refine ab_sem_q rfl rfl (fun Q hQ => vc_X11_withdraw_0 _ mi ml ⟨_, _, _, s_isWishC O R0.1 _, ?_⟩)
      rw [pI_1 ⟨w, hw, rfl⟩]
      refine ⟨fun q => (by cases q), fun _ => ?_⟩
      simp (disch := omega) only [hg, nI_ltI, nI_eq, nI_clamp, nI_1, xl_0, xg_0, xe_0, xe_m1, nI_0, xl_1, xl_2, xl_3, xl_4, xl_5, xl_6, xl_7, xl_8, xl_9, xl_10, xl_12, xl_20, xl_30, xl_32, xl_40, xl_41, xl_42, xl_48, xl_57, xl_59, xl_64, xl_97, xl_100, xl_122, xl_126, xl_128, xl_1000, xl_9999, xg_1, xg_2, xg_3, xg_4, xg_5, xg_6, xg_7, xg_8, xg_9, xg_10, xg_12, xg_20, xg_30, xg_32, xg_40, xg_41, xg_42, xg_48, xg_57, xg_59, xg_64, xg_97, xg_100, xg_122, xg_126, xg_128, xg_1000, xg_9999, xe_1, xe_2, xe_3, xe_4, xe_5, xe_6, xe_7, xe_8, xe_9, xe_10, xe_12, xe_20, xe_30, xe_32, xe_40, xe_41, xe_42, xe_48, xe_57, xe_59, xe_64, xe_97, xe_100, xe_122, xe_126, xe_128, xe_1000, xe_9999, true_implies, false_implies, not_true_eq_false, not_false_eq_true, and_true, true_and, forall_const, imp_self, lc_eq, implies_true, vin, Bool.true_eq_false, Bool.false_eq_true, false_and, and_false, or_false, false_or, or_true, true_or]
      exact hQ
    have H1 : eqM mi ml (ab_ui (ab_ui mi 17 w (mi 1 0)) 0 12 1) ml (ab_ui (ab_ui (ab_ui mi 17 w (mi 1 0)) 0 12 1) 40 0 0) ml := by
      refine ⟨fun k j h => ?_, fun _ _ _ => rfl, fun k hk => ?_, fun _ _ => rfl⟩
      · have h40 := lm_40 h
        simp only [ui_app]
        rw [if_neg (by omega : ¬ k = 0), if_neg (by omega : ¬ k = 17)]
        by_cases e : k = 40
        · rw [if_pos e]
          by_cases e2 : j = 0
          · rw [e, e2] at h; cases h
          · rw [if_neg e2]
        · rw [if_neg e]
      · funext j; rw [ui_app, if_neg (by omega)]
    have s2 : cS ro 40 184 [.ref 40, .int (nI w)] (ab_ui (ab_ui mi 17 w (mi 1 0)) 0 12 1) ml (some (.int 1)) (ab_ui (ab_ui (ab_ui (ab_ui mi 17 w (mi 1 0)) 0 12 1) 40 0 0) 59 w (mi 1 0)) ml := by
      refine ab_sem_q rfl rfl (fun Q hQ => vc_X12_withdraw_0 _ _ ml ⟨_, _, _, s_misWish O OM H1 _, ?_⟩)
      rw [pI_1 ⟨w, hw, rfl⟩]
      refine ⟨fun q => (by cases q), fun _ => ?_⟩
      have e59 : ab_ui (ab_ui (ab_ui mi 17 w (mi 1 0)) 0 12 1) 40 0 0 59 w = -1 := by rw [H1.e59, (OM.w w hw).2.2.2.2]; exact hg
      have e34 : ab_ui (ab_ui (ab_ui mi 17 w (mi 1 0)) 0 12 1) 40 0 0 40 34 = mi 1 0 := OM.s34
      simp (disch := omega) only [e59, e34, m1_neg, nI_ltI, nI_eq, nI_clamp, nI_1, xl_0, xg_0, xe_0, xe_m1, nI_0, xl_1, xl_2, xl_3, xl_4, xl_5, xl_6, xl_7, xl_8, xl_9, xl_10, xl_12, xl_20, xl_30, xl_32, xl_40, xl_41, xl_42, xl_48, xl_57, xl_59, xl_64, xl_97, xl_100, xl_122, xl_126, xl_128, xl_1000, xl_9999, xg_1, xg_2, xg_3, xg_4, xg_5, xg_6, xg_7, xg_8, xg_9, xg_10, xg_12, xg_20, xg_30, xg_32, xg_40, xg_41, xg_42, xg_48, xg_57, xg_59, xg_64, xg_97, xg_100, xg_122, xg_126, xg_128, xg_1000, xg_9999, xe_1, xe_2, xe_3, xe_4, xe_5, xe_6, xe_7, xe_8, xe_9, xe_10, xe_12, xe_20, xe_30, xe_32, xe_40, xe_41, xe_42, xe_48, xe_57, xe_59, xe_64, xe_97, xe_100, xe_122, xe_126, xe_128, xe_1000, xe_9999, true_implies, false_implies, not_true_eq_false, not_false_eq_true, and_true, true_and, forall_const, imp_self, lc_eq, implies_true, vin, Bool.true_eq_false, Bool.false_eq_true, false_and, and_false, or_false, false_or, or_true, true_or]
      exact hQ
    have e17 : ∀ v, ab_ui (ab_ui (ab_ui (ab_ui mi 17 w (mi 1 0)) 0 12 1) 40 0 0) 59 w (mi 1 0) 17 v = if v = w then mi 1 0 else mi 17 v := fun v => by simp [ui_app]
    have e59 : ∀ v, ab_ui (ab_ui (ab_ui (ab_ui mi 17 w (mi 1 0)) 0 12 1) 40 0 0) 59 w (mi 1 0) 59 v = if v = w then mi 1 0 else mi 59 v := fun v => by simp [ui_app]
    refine ⟨_, _, _, _, _, s1, s2, ?_, ?_, fun h => absurd h (st_1 (ab_ui mi 17 w (mi 1 0)))⟩
    · refine ⟨O.1, O.2.1, O.2.2.1, O.2.2.2.1, fun v hv => ?_, O.c, O.g, O.h, O.y, ⟨dd, h1, h2, h3⟩, O.t⟩
      obtain ⟨a, b, p, q, r⟩ := O.w v hv
      refine ⟨a, b, p, q, ?_⟩
      rw [e17]
      by_cases e : v = w
      · rw [if_pos e]; exact Or.inr ⟨dd, h1, h2⟩
      · rw [if_neg e]; exact r
    · refine ⟨⟨OM.s12, OM.s20, OM.s30, OM.s34, OM.s35, OM.s69, OM.s2⟩, OM.l, fun v hv => ?_, OM.n, OM.h, OM.g, OM.y, OM.c, OM.t, OM.x⟩
      obtain ⟨a, b, p, q, r⟩ := OM.w v hv
      refine ⟨a, b, p, q, ?_⟩
      rw [e17, e59]
      by_cases e : v = w
      · rw [if_pos e, if_pos e]
      · rw [if_neg e, if_neg e]; exact r
  · have s1 : cS ro 40 108 [.ref 0, .int x] mi ml (some (.int 0)) mi ml := by
      refine ab_sem_q rfl rfl (fun Q hQ => vc_X11_withdraw_0 _ mi ml ⟨_, _, _, s_isWishC O R0.1 _, ?_⟩)
      rw [pI_e0]
      refine ⟨fun _ => hQ, fun c1 => ?_⟩
      obtain ⟨w, hw, rfl⟩ := Classical.not_not.1 c1
      simp (disch := omega) only [nI_ltI, nI_eq, nI_clamp, nI_1, xl_0, xg_0, xe_0, xe_m1, nI_0, xl_1, xl_2, xl_3, xl_4, xl_5, xl_6, xl_7, xl_8, xl_9, xl_10, xl_12, xl_20, xl_30, xl_32, xl_40, xl_41, xl_42, xl_48, xl_57, xl_59, xl_64, xl_97, xl_100, xl_122, xl_126, xl_128, xl_1000, xl_9999, xg_1, xg_2, xg_3, xg_4, xg_5, xg_6, xg_7, xg_8, xg_9, xg_10, xg_12, xg_20, xg_30, xg_32, xg_40, xg_41, xg_42, xg_48, xg_57, xg_59, xg_64, xg_97, xg_100, xg_122, xg_126, xg_128, xg_1000, xg_9999, xe_1, xe_2, xe_3, xe_4, xe_5, xe_6, xe_7, xe_8, xe_9, xe_10, xe_12, xe_20, xe_30, xe_32, xe_40, xe_41, xe_42, xe_48, xe_57, xe_59, xe_64, xe_97, xe_100, xe_122, xe_126, xe_128, xe_1000, xe_9999, true_implies, false_implies, not_true_eq_false, not_false_eq_true, and_true, true_and, forall_const, imp_self, lc_eq, implies_true, vin, Bool.true_eq_false, Bool.false_eq_true, false_and, and_false, or_false, false_or, or_true, true_or]
      exact ⟨fun q => absurd ⟨w, hw, rfl, q⟩ c, fun _ => hQ⟩
    have H1 := R0.m.t 0
    have s2 : cS ro 40 184 [.ref 40, .int x] mi ml (some (.int 0)) (ab_ui mi 40 0 0) ml := by
      refine ab_sem_q rfl rfl (fun Q hQ => vc_X12_withdraw_0 _ _ ml ⟨_, _, _, s_misWish O OM H1 _, ?_⟩)
      rw [pI_e0]
      refine ⟨fun _ => hQ, fun c1 => ?_⟩
      obtain ⟨w, hw, rfl⟩ := Classical.not_not.1 c1
      have e59 : ab_ui mi 40 0 0 59 w = mi 17 w := by rw [H1.e59, (OM.w w hw).2.2.2.2]
      simp (disch := omega) only [e59, gone_neg O hw, nI_ltI, nI_eq, nI_clamp, nI_1, xl_0, xg_0, xe_0, xe_m1, nI_0, xl_1, xl_2, xl_3, xl_4, xl_5, xl_6, xl_7, xl_8, xl_9, xl_10, xl_12, xl_20, xl_30, xl_32, xl_40, xl_41, xl_42, xl_48, xl_57, xl_59, xl_64, xl_97, xl_100, xl_122, xl_126, xl_128, xl_1000, xl_9999, xg_1, xg_2, xg_3, xg_4, xg_5, xg_6, xg_7, xg_8, xg_9, xg_10, xg_12, xg_20, xg_30, xg_32, xg_40, xg_41, xg_42, xg_48, xg_57, xg_59, xg_64, xg_97, xg_100, xg_122, xg_126, xg_128, xg_1000, xg_9999, xe_1, xe_2, xe_3, xe_4, xe_5, xe_6, xe_7, xe_8, xe_9, xe_10, xe_12, xe_20, xe_30, xe_32, xe_40, xe_41, xe_42, xe_48, xe_57, xe_59, xe_64, xe_97, xe_100, xe_122, xe_126, xe_128, xe_1000, xe_9999, true_implies, false_implies, not_true_eq_false, not_false_eq_true, and_true, true_and, forall_const, imp_self, lc_eq, implies_true, vin, Bool.true_eq_false, Bool.false_eq_true, false_and, and_false, or_false, false_or, or_true, true_or]
      exact ⟨fun q => absurd ⟨w, hw, rfl, q⟩ c, fun _ => hQ⟩
    exact ⟨_, _, _, _, _, s1, s2, Rel_q O OM R0 H1⟩
/-- what a cell that no group hangs on leaves standing -/
theorem keepG (R : mi 0 12 = 0 → gP mi ml mi ml ∧ kP mi ml ml) {mi' : cM1} (h0 : mi' 0 12 = mi 0 12) (E : geq mi ml mi' ml) (hg : ∀ k j, gsI k j = true → mi' k j = mi k j) : mi' 0 12 = 0 → gP mi' ml mi' ml ∧ kP mi' ml ml := fun h => by
  rw [h0] at h
  obtain ⟨G, K⟩ := R h
  rw [E.qgP, E.qkP]
  exact ⟨G.of hg (fun _ _ _ => rfl), K⟩
theorem op_house (x y : Int32) : OP ro 109 185 [.int x, .int y] := by
  intro mi ml R
  obtain ⟨O, OM, K⟩ := R
  have R0 : rP mi ml mi ml := ⟨eqP.rf mi ml, K⟩
  by_cases c : (∃ p, p < 99 + 1 ∧ x = nI p) ∧ ∃ h, h < 6 + 1 ∧ y = nI h
  · obtain ⟨cx, cy⟩ := c
    obtain ⟨p, hp, rfl⟩ := id cx
    obtain ⟨h, hh, rfl⟩ := id cy
    have s1 : cS ro 40 109 [.ref 0, .int (nI p), .int (nI h)] mi ml (some (.int 1)) (ab_ui mi 24 p (nI h)) ml := by
      refine ab_sem_q rfl rfl (fun Q hQ => vc_X11_house_0 _ _ mi ml ?_)
      simp (disch := omega) only [show p < 100 by omega, nI_ltI, nI_eq, nI_clamp, nI_1, xl_0, xg_0, xe_0, xe_m1, nI_0, xl_1, xl_2, xl_3, xl_4, xl_5, xl_6, xl_7, xl_8, xl_9, xl_10, xl_12, xl_20, xl_30, xl_32, xl_40, xl_41, xl_42, xl_48, xl_57, xl_59, xl_64, xl_97, xl_100, xl_122, xl_126, xl_128, xl_1000, xl_9999, xg_1, xg_2, xg_3, xg_4, xg_5, xg_6, xg_7, xg_8, xg_9, xg_10, xg_12, xg_20, xg_30, xg_32, xg_40, xg_41, xg_42, xg_48, xg_57, xg_59, xg_64, xg_97, xg_100, xg_122, xg_126, xg_128, xg_1000, xg_9999, xe_1, xe_2, xe_3, xe_4, xe_5, xe_6, xe_7, xe_8, xe_9, xe_10, xe_12, xe_20, xe_30, xe_32, xe_40, xe_41, xe_42, xe_48, xe_57, xe_59, xe_64, xe_97, xe_100, xe_122, xe_126, xe_128, xe_1000, xe_9999, true_implies, false_implies, not_true_eq_false, not_false_eq_true, and_true, true_and, forall_const, imp_self, lc_eq, implies_true, vin, Bool.true_eq_false, Bool.false_eq_true, false_and, and_false, or_false, false_or, or_true, true_or]
      refine ⟨_, _, _, s_isHouseC _, ?_⟩
      rw [pI_1 ⟨h, hh, rfl⟩]
      exact ⟨fun q => (by cases q), fun _ => hQ⟩
    have s2 : cS ro 40 185 [.ref 40, .int (nI p), .int (nI h)] (ab_ui mi 24 p (nI h)) ml (some (.int 1)) (ab_ui (ab_ui (ab_ui mi 24 p (nI h)) 40 0 0) 60 p (nI h)) ml := by
      refine ab_sem_q rfl rfl (fun Q hQ => vc_X12_house_0 _ _ _ ml ⟨_, _, _, s_withinN _ 99 (by decide), ?_⟩)
      rw [pI_1 cx]
      refine ⟨fun q => (by cases q), fun _ => ⟨_, _, _, s_withinN _ 6 (by decide), ?_⟩⟩
      rw [pI_1 cy]
      refine ⟨fun q => (by cases q), fun _ => ?_⟩
      simp (disch := omega) only [nI_ltI, nI_eq, nI_clamp, nI_1, xl_0, xg_0, xe_0, xe_m1, nI_0, xl_1, xl_2, xl_3, xl_4, xl_5, xl_6, xl_7, xl_8, xl_9, xl_10, xl_12, xl_20, xl_30, xl_32, xl_40, xl_41, xl_42, xl_48, xl_57, xl_59, xl_64, xl_97, xl_100, xl_122, xl_126, xl_128, xl_1000, xl_9999, xg_1, xg_2, xg_3, xg_4, xg_5, xg_6, xg_7, xg_8, xg_9, xg_10, xg_12, xg_20, xg_30, xg_32, xg_40, xg_41, xg_42, xg_48, xg_57, xg_59, xg_64, xg_97, xg_100, xg_122, xg_126, xg_128, xg_1000, xg_9999, xe_1, xe_2, xe_3, xe_4, xe_5, xe_6, xe_7, xe_8, xe_9, xe_10, xe_12, xe_20, xe_30, xe_32, xe_40, xe_41, xe_42, xe_48, xe_57, xe_59, xe_64, xe_97, xe_100, xe_122, xe_126, xe_128, xe_1000, xe_9999, true_implies, false_implies, not_true_eq_false, not_false_eq_true, and_true, true_and, forall_const, imp_self, lc_eq, implies_true, vin, Bool.true_eq_false, Bool.false_eq_true, false_and, and_false, or_false, false_or, or_true, true_or]
      exact hQ
    have e24 : ∀ v, ab_ui (ab_ui (ab_ui mi 24 p (nI h)) 40 0 0) 60 p (nI h) 24 v = if v = p then nI h else mi 24 v := fun v => by simp [ui_app]
    have e60 : ∀ v, ab_ui (ab_ui (ab_ui mi 24 p (nI h)) 40 0 0) 60 p (nI h) 60 v = if v = p then nI h else mi 60 v := fun v => by simp [ui_app]
    refine ⟨_, _, _, _, _, s1, s2, ?_, ?_, keepG K rfl ⟨rfl, rfl, rfl, rfl, rfl, rfl, rfl, rfl, rfl, rfl⟩ (fun k j q => by rw [ui_else (P := gsI) (k := 60) (j := p) rfl q, ui_else (P := gsI) (k := 40) (j := 0) rfl q, ui_else (P := gsI) (k := 24) (j := p) rfl q])⟩
    · refine ⟨O.1, O.2.1, O.2.2.1, O.2.2.2.1, O.w, O.c, O.g, fun v hv => ?_, O.y, O.d, O.t⟩
      rw [e24]
      by_cases e : v = p
      · rw [if_pos e]; exact ⟨h, by omega, rfl⟩
      · rw [if_neg e]; exact O.h v hv
    · refine ⟨⟨OM.s12, OM.s20, OM.s30, OM.s34, OM.s35, OM.s69, OM.s2⟩, OM.l, OM.w, OM.n, fun v hv => ?_, OM.g, OM.y, OM.c, OM.t, OM.x⟩
      rw [e24, e60]
      by_cases e : v = p
      · rw [if_pos e, if_pos e]
      · rw [if_neg e, if_neg e]; exact OM.h v hv
  · have s1 : cS ro 40 109 [.ref 0, .int x, .int y] mi ml (some (.int 0)) mi ml := by
      refine ab_sem_q rfl rfl (fun Q hQ => vc_X11_house_0 _ _ mi ml ⟨fun _ => hQ, fun c1 => ⟨fun c2 => ⟨_, _, _, s_isHouseC _, ?_⟩, fun _ => hQ⟩⟩)
      rw [pI_e0]
      exact ⟨fun _ => hQ, fun c3 => absurd ⟨(rg2 (n := 100) (by decide)).1 ⟨c1, c2⟩, Classical.not_not.1 c3⟩ c⟩
    have s2 : cS ro 40 185 [.ref 40, .int x, .int y] mi ml (some (.int 0)) (ab_ui mi 40 0 0) ml := by
      refine ab_sem_q rfl rfl (fun Q hQ => vc_X12_house_0 _ _ _ ml ⟨_, _, _, s_withinN _ 99 (by decide), ?_⟩)
      rw [pI_e0]
      refine ⟨fun _ => hQ, fun c1 => ⟨_, _, _, s_withinN _ 6 (by decide), ?_⟩⟩
      rw [pI_e0]
      exact ⟨fun _ => hQ, fun c2 => absurd ⟨Classical.not_not.1 c1, Classical.not_not.1 c2⟩ c⟩
    exact ⟨_, _, _, _, _, s1, s2, Rel_q O OM R0 (R0.m.t 0)⟩
theorem op_world (x : Int32) : OP ro 127 236 [.int x] := by
  intro mi ml R
  obtain ⟨O, OM, K⟩ := R
  have R0 : rP mi ml mi ml := ⟨eqP.rf mi ml, K⟩
  have hC := O.C2
  obtain ⟨dd, h1, h2, h3⟩ := O.d
  by_cases c : (∃ p, p < 127 + 1 ∧ x = nI p) ∧ nC mi < 40
  · obtain ⟨cx, c4⟩ := c
    obtain ⟨w, hw, rfl⟩ := id cx
    generalize hn : nC mi = n at *
    have eC : mi 18 2 = nI n := by rw [← hn]; exact O.C
    have e69 : mi 40 69 = nI n := OM.s69.trans eC
    have s1 : cS ro 40 127 [.ref 0, .int (nI w)] mi ml (some (.int (nI n))) (ab_ui (ab_ui (ab_ui mi 19 n (nI w)) 20 n (mi 1 0)) 18 2 (nI (n + 1))) ml := by
      refine ab_sem_q rfl rfl (fun Q hQ => vc_X11_world_0 _ mi ml ?_)
      simp (disch := omega) only [show w < 128 by omega, eC, c4, nI_ltI, nI_eq, nI_clamp, nI_1, xl_0, xg_0, xe_0, xe_m1, nI_0, xl_1, xl_2, xl_3, xl_4, xl_5, xl_6, xl_7, xl_8, xl_9, xl_10, xl_12, xl_20, xl_30, xl_32, xl_40, xl_41, xl_42, xl_48, xl_57, xl_59, xl_64, xl_97, xl_100, xl_122, xl_126, xl_128, xl_1000, xl_9999, xg_1, xg_2, xg_3, xg_4, xg_5, xg_6, xg_7, xg_8, xg_9, xg_10, xg_12, xg_20, xg_30, xg_32, xg_40, xg_41, xg_42, xg_48, xg_57, xg_59, xg_64, xg_97, xg_100, xg_122, xg_126, xg_128, xg_1000, xg_9999, xe_1, xe_2, xe_3, xe_4, xe_5, xe_6, xe_7, xe_8, xe_9, xe_10, xe_12, xe_20, xe_30, xe_32, xe_40, xe_41, xe_42, xe_48, xe_57, xe_59, xe_64, xe_97, xe_100, xe_122, xe_126, xe_128, xe_1000, xe_9999, true_implies, false_implies, not_true_eq_false, not_false_eq_true, and_true, true_and, forall_const, imp_self, lc_eq, implies_true, vin, Bool.true_eq_false, Bool.false_eq_true, false_and, and_false, or_false, false_or, or_true, true_or]
      refine ⟨_, _, _, ab_sem_q rfl rfl (fun Q hQ => vc_X2_addCase_0 _ _ mi ml ?_), hQ⟩
      simp (disch := omega) only [eC, c4, nI_pred, nI_ltI, nI_eq, nI_clamp, nI_1, xl_0, xg_0, xe_0, xe_m1, nI_0, xl_1, xl_2, xl_3, xl_4, xl_5, xl_6, xl_7, xl_8, xl_9, xl_10, xl_12, xl_20, xl_30, xl_32, xl_40, xl_41, xl_42, xl_48, xl_57, xl_59, xl_64, xl_97, xl_100, xl_122, xl_126, xl_128, xl_1000, xl_9999, xg_1, xg_2, xg_3, xg_4, xg_5, xg_6, xg_7, xg_8, xg_9, xg_10, xg_12, xg_20, xg_30, xg_32, xg_40, xg_41, xg_42, xg_48, xg_57, xg_59, xg_64, xg_97, xg_100, xg_122, xg_126, xg_128, xg_1000, xg_9999, xe_1, xe_2, xe_3, xe_4, xe_5, xe_6, xe_7, xe_8, xe_9, xe_10, xe_12, xe_20, xe_30, xe_32, xe_40, xe_41, xe_42, xe_48, xe_57, xe_59, xe_64, xe_97, xe_100, xe_122, xe_126, xe_128, xe_1000, xe_9999, true_implies, false_implies, not_true_eq_false, not_false_eq_true, and_true, true_and, forall_const, imp_self, lc_eq, implies_true, vin, Bool.true_eq_false, Bool.false_eq_true, false_and, and_false, or_false, false_or, or_true, true_or]
      exact hQ
    have e69a : ab_ui (ab_ui (ab_ui (ab_ui mi 19 n (nI w)) 20 n (mi 1 0)) 18 2 (nI (n + 1))) 40 0 0 40 69 = nI n := e69
    have e34 : ab_ui (ab_ui (ab_ui (ab_ui mi 19 n (nI w)) 20 n (mi 1 0)) 18 2 (nI (n + 1))) 40 0 0 40 34 = mi 1 0 := OM.s34
    have s2 : cS ro 40 236 [.ref 40, .int (nI w)] (ab_ui (ab_ui (ab_ui mi 19 n (nI w)) 20 n (mi 1 0)) 18 2 (nI (n + 1))) ml (some (.int (nI n))) (ab_ui (ab_ui (ab_ui (ab_ui (ab_ui (ab_ui (ab_ui mi 19 n (nI w)) 20 n (mi 1 0)) 18 2 (nI (n + 1))) 40 0 0) 81 n (nI w)) 82 n (mi 1 0)) 40 69 (nI (n + 1))) ml := by
      refine ab_sem_q rfl rfl (fun Q hQ => vc_X12_world_0 _ _ ml ⟨_, _, _, s_withinN _ 127 (by decide), ?_⟩)
      rw [pI_1 cx]
      refine ⟨fun q => (by cases q), fun _ => ?_⟩
      have n40 : ¬ n = 40 := by omega
      simp (disch := omega) only [e69a, e34, n40, nI_pred, nI_ltI, nI_eq, nI_clamp, nI_1, xl_0, xg_0, xe_0, xe_m1, nI_0, xl_1, xl_2, xl_3, xl_4, xl_5, xl_6, xl_7, xl_8, xl_9, xl_10, xl_12, xl_20, xl_30, xl_32, xl_40, xl_41, xl_42, xl_48, xl_57, xl_59, xl_64, xl_97, xl_100, xl_122, xl_126, xl_128, xl_1000, xl_9999, xg_1, xg_2, xg_3, xg_4, xg_5, xg_6, xg_7, xg_8, xg_9, xg_10, xg_12, xg_20, xg_30, xg_32, xg_40, xg_41, xg_42, xg_48, xg_57, xg_59, xg_64, xg_97, xg_100, xg_122, xg_126, xg_128, xg_1000, xg_9999, xe_1, xe_2, xe_3, xe_4, xe_5, xe_6, xe_7, xe_8, xe_9, xe_10, xe_12, xe_20, xe_30, xe_32, xe_40, xe_41, xe_42, xe_48, xe_57, xe_59, xe_64, xe_97, xe_100, xe_122, xe_126, xe_128, xe_1000, xe_9999, true_implies, false_implies, not_true_eq_false, not_false_eq_true, and_true, true_and, forall_const, imp_self, lc_eq, implies_true, vin, Bool.true_eq_false, Bool.false_eq_true, false_and, and_false, or_false, false_or, or_true, true_or]
      exact hQ
    have eN : nC (ab_ui (ab_ui (ab_ui (ab_ui (ab_ui (ab_ui (ab_ui mi 19 n (nI w)) 20 n (mi 1 0)) 18 2 (nI (n + 1))) 40 0 0) 81 n (nI w)) 82 n (mi 1 0)) 40 69 (nI (n + 1))) = n + 1 := by
      show (nI (n + 1)).toNatClampNeg = n + 1
      exact nI_clamp (by omega)
    have e19 : ∀ v, ab_ui (ab_ui (ab_ui (ab_ui (ab_ui (ab_ui (ab_ui mi 19 n (nI w)) 20 n (mi 1 0)) 18 2 (nI (n + 1))) 40 0 0) 81 n (nI w)) 82 n (mi 1 0)) 40 69 (nI (n + 1)) 19 v = if v = n then nI w else mi 19 v := fun v => by simp [ui_app]
    have e20 : ∀ v, ab_ui (ab_ui (ab_ui (ab_ui (ab_ui (ab_ui (ab_ui mi 19 n (nI w)) 20 n (mi 1 0)) 18 2 (nI (n + 1))) 40 0 0) 81 n (nI w)) 82 n (mi 1 0)) 40 69 (nI (n + 1)) 20 v = if v = n then mi 1 0 else mi 20 v := fun v => by simp [ui_app]
    have e81 : ∀ v, ab_ui (ab_ui (ab_ui (ab_ui (ab_ui (ab_ui (ab_ui mi 19 n (nI w)) 20 n (mi 1 0)) 18 2 (nI (n + 1))) 40 0 0) 81 n (nI w)) 82 n (mi 1 0)) 40 69 (nI (n + 1)) 81 v = if v = n then nI w else mi 81 v := fun v => by simp [ui_app]
    have e82 : ∀ v, ab_ui (ab_ui (ab_ui (ab_ui (ab_ui (ab_ui (ab_ui mi 19 n (nI w)) 20 n (mi 1 0)) 18 2 (nI (n + 1))) 40 0 0) 81 n (nI w)) 82 n (mi 1 0)) 40 69 (nI (n + 1)) 82 v = if v = n then mi 1 0 else mi 82 v := fun v => by simp [ui_app]
    refine ⟨_, _, _, _, _, s1, s2, ?_, ?_, keepG K rfl ⟨rfl, rfl, rfl, rfl, rfl, rfl, rfl, rfl, rfl, rfl⟩ (fun k j q => by rw [ui_else (P := gsI) (k := 40) (j := 69) rfl q, ui_else (P := gsI) (k := 82) (j := n) rfl q, ui_else (P := gsI) (k := 81) (j := n) rfl q, ui_else (P := gsI) (k := 40) (j := 0) rfl q, ui_else (P := gsI) (k := 18) (j := 2) rfl q, ui_else (P := gsI) (k := 20) (j := n) rfl q, ui_else (P := gsI) (k := 19) (j := n) rfl q])⟩
    · refine ⟨O.1, O.2.1, ⟨by rw [eN]; rfl, by rw [eN]; omega⟩, O.2.2.2.1, O.w, fun v hv => ?_, O.g, O.h, O.y, ⟨dd, h1, h2, h3⟩, O.t⟩
      rw [eN] at hv
      rw [e19, e20]
      by_cases e : v = n
      · rw [if_pos e, if_pos e]; exact ⟨⟨w, by omega, rfl⟩, dd, h1, h2⟩
      · rw [if_neg e, if_neg e]; exact O.c v (by omega)
    · refine ⟨⟨OM.s12, OM.s20, OM.s30, OM.s34, OM.s35, rfl, OM.s2⟩, OM.l, OM.w, OM.n, OM.h, OM.g, OM.y, fun v hv => ?_, OM.t, OM.x⟩
      rw [eN] at hv
      rw [e19, e20, e81, e82]
      by_cases e : v = n
      · rw [if_pos e, if_pos e, if_pos e, if_pos e]; exact ⟨rfl, rfl⟩
      · rw [if_neg e, if_neg e, if_neg e, if_neg e]; exact OM.c v (by omega)
  · have s1 : cS ro 40 127 [.ref 0, .int x] mi ml (some (.int (-1))) mi ml := by
      refine ab_sem_q rfl rfl (fun Q hQ => vc_X11_world_0 _ mi ml ⟨fun _ => hQ, fun c1 => ⟨fun c2 => ⟨fun c3 => ?_, fun _ => hQ⟩, fun _ => hQ⟩⟩)
      rw [O.C, xl_40 (by omega)] at c3
      exact absurd ⟨(rg2 (n := 128) (by decide)).1 ⟨c1, c2⟩, c3⟩ c
    have e69a : ab_ui mi 40 0 0 40 69 = nI (nC mi) := OM.s69.trans O.C
    have s2 : cS ro 40 236 [.ref 40, .int x] mi ml (some (.int (-1))) (ab_ui mi 40 0 0) ml := by
      refine ab_sem_q rfl rfl (fun Q hQ => vc_X12_world_0 _ _ ml ⟨_, _, _, s_withinN _ 127 (by decide), ?_⟩)
      rw [pI_e0, e69a, xe_40 (by omega)]
      exact ⟨fun _ => hQ, fun c1 => ⟨fun _ => hQ, fun c2 => absurd ⟨Classical.not_not.1 c1, by omega⟩ c⟩⟩
    exact ⟨_, _, _, _, _, s1, s2, Rel_q O OM R0 (R0.m.t 0)⟩
end CH
