/-! The reference: least sets. -/
section LM
variable {ro : ab_E} {d : Nat} {ti mi vi mi' : cM1} {tl ml vl ml' : cM2} {w : Int32}
theorem nar_p (P : Prop) : vp_nar .boolean (pI P) = pI P := by
  rcases pI_or P with h | h <;> rw [h] <;> decide +kernel
def fOK (z : Int32 × Int32) (mi : cM1) : Prop := mi 40 55 = z.1 ∧ mi 40 56 = z.2
theorem s_finds {z : Int32 × Int32} (F : fOK z mi) (s : Nat) : ∃ mi', cS ro (d + 1) 218 [.ref 40, .int (nI s), .int w] mi ml none mi' ml ∧ fOK (mt w z s) mi' ∧ ∀ k j, ¬ (k = 40 ∧ (j = 55 ∨ j = 56)) → mi' k j = mi k j := by
  have hk : ∀ (v1 v2 : Int32) k j, ¬ (k = 40 ∧ (j = 55 ∨ j = 56)) → ab_ui (ab_ui mi 40 56 v1) 40 55 v2 k j = mi k j := fun v1 v2 k j h => by
    simp only [ui_app]
    by_cases e : k = 40
    · have h1 : ¬ j = 55 := fun q => h ⟨e, Or.inl q⟩
      have h2 : ¬ j = 56 := fun q => h ⟨e, Or.inr q⟩
      simp [h1, h2]
    · simp [e]
  obtain ⟨f1, f2⟩ := F
  by_cases c : z.1 = w
  · refine ⟨ab_ui (ab_ui mi 40 56 (nI s)) 40 55 (z.1 + 1), ab_sem_q rfl rfl (fun Q hQ => vc_X12_finds_0 _ _ mi ml ?_), ?_, hk _ _⟩
    · rw [f1]; exact ⟨fun _ => hQ, fun h => absurd c h⟩
    · unfold mt; rw [if_pos c]; exact ⟨by simp [ui_app], by simp [ui_app]⟩
  · refine ⟨ab_ui (ab_ui mi 40 56 z.2) 40 55 (z.1 + 1), ab_sem_q rfl rfl (fun Q hQ => vc_X12_finds_0 _ _ mi ml ?_), ?_, hk _ _⟩
    · rw [f1, f2]; exact ⟨fun h => absurd h c, fun _ => hQ⟩
    · unfold mt; rw [if_neg c]; exact ⟨by simp [ui_app], by simp [ui_app]⟩
theorem mP.ofi (M : mP ti tl vi vl mi ml) (hi : ∀ k j, (lmI k j = true ∨ k < 40 ∨ mgI k j = true) → mi' k j = mi k j) : mP ti tl vi vl mi' ml := by
  refine ⟨⟨fun k j h => (hi k j (Or.inl h)).trans (M.1.1 k j h), M.1.2.1, fun k hk => ?_, M.1.2.2.2⟩, ?_, fun x hx => ?_, fun g hg => ?_⟩
  · rw [← M.1.2.2.1 k hk]; funext j; exact hi k j (Or.inr (Or.inl hk))
  · rw [hi 40 45 (Or.inr (Or.inr rfl))]; exact M.2.1
  · rw [hi 68 x (Or.inr (Or.inr rfl))]; exact M.2.2.1 x hx
  · rw [hi 69 g (Or.inr (Or.inr rfl))]; exact M.2.2.2 g hg
def lM (ti : cM1) (tl : cM2) (vi : cM1) (vl : cM2) (z : Int32 × Int32) (a i o : Nat) (mi : cM1) (ml : cM2) : Prop := mP ti tl vi vl mi ml ∧ fOK z mi ∧ (∀ g, g < a → mi 75 g = pI (alP1 ti tl g)) ∧ (∀ g h, g < h → h < nG ti tl → (g < i ∨ (g = i ∧ h < o)) → mi 76 (30 * g + h) = pI (paP ti tl g h))
theorem lM.fr {z : Int32 × Int32} {a i o : Nat} (L : lM ti tl vi vl z a i o mi ml) (h : fr bfI bfL mi ml mi' ml') : lM ti tl vi vl z a i o mi' ml' :=
  ⟨L.1.fr h, ⟨(h.1 40 55 rfl).trans L.2.1.1, (h.1 40 56 rfl).trans L.2.1.2⟩, fun g hg => (h.1 75 g rfl).trans (L.2.2.1 g hg), fun g k h1 h2 h3 => (h.1 76 _ rfl).trans (L.2.2.2 g k h1 h2 h3)⟩
theorem s_findsL {z : Int32 × Int32} {a i o : Nat} (L : lM ti tl vi vl z a i o mi ml) (s : Nat) : ∃ mi', cS ro (d + 1) 218 [.ref 40, .int (nI s), .int w] mi ml none mi' ml ∧ lM ti tl vi vl (mt w z s) a i o mi' ml := by
  obtain ⟨mi', s1, F1, hk⟩ := s_finds (ro := ro) (d := d) (ml := ml) (w := w) L.2.1 s
  refine ⟨mi', s1, L.1.ofi (fun k j h => hk k j (fun q => ?_)), F1, fun g hg => ?_, fun g k h1 h2 h3 => ?_⟩
  · rcases q with ⟨q1, q2 | q2⟩ <;> rw [q1, q2] at h <;> rcases h with h | h | h <;> revert h <;> decide
  · rw [hk 75 g (fun q => by cases q.1)]; exact L.2.2.1 g hg
  · rw [hk 76 _ (fun q => by cases q.1)]; exact L.2.2.2 g k h1 h2 h3
set_option maxHeartbeats 4000000 in
theorem s_findLeast (O : okT ti) (OM : okM ti tl) (H : eqM ti tl vi vl mi ml) {n : Nat} (h1 : 1 ≤ n) (h3 : n ≤ 3) : ∃ mi' ml', cS ro (d + 5) 217 [.ref 40, .int (nI n), .int w] mi ml none mi' ml' ∧ mP ti tl vi vl mi' ml' ∧ fOK ((lsts ti tl n).foldl (mt w) (0, -1)) mi' := by
  have hW := O.W2
  have hG := nG_le ti tl
  obtain ⟨mi1, ml1, s1, _, M1⟩ := s_findGroups (ro := ro) (d := d) O OM H
  refine ab_ex_q rfl rfl (fun Q hQ => vc_X12_findLeast_0 _ _ mi ml ⟨_, _, s1, ?_⟩)
  have M2 : mP ti tl vi vl (ab_ui (ab_ui mi1 40 55 0) 40 56 (-1)) ml1 := (M1.ui _ rfl rfl (by decide)).ui _ rfl rfl (by decide)
  have F2 : fOK (0, -1) (ab_ui (ab_ui mi1 40 55 0) 40 56 (-1)) := ⟨by simp [ui_app], by simp [ui_app]⟩
  generalize ab_ui (ab_ui mi1 40 55 0) 40 56 (-1) = mi2 at *
  obtain ⟨mi3, ml3, s3, F3⟩ := s_goTogether (ro := ro) (d := d + 1) O OM M2 0
  have e0 : goeP ti tl (b3 0) ↔ goN ti tl 0 := Iff.rfl
  refine ⟨_, _, _, s3, ?_⟩
  rw [pI_e0, e0]
  refine ⟨fun c => ?_, fun c => ?_⟩
  · refine hQ _ _ ⟨M2.fr F3, ?_⟩
    unfold lsts
    rw [lif_0 c]
    exact ⟨(F3.1 40 55 rfl).trans F2.1, (F3.1 40 56 rfl).trans F2.2⟩
  · have c' := Classical.not_not.1 c
    have hl : lsts ti tl n = (if n = 1 then pre (on1 ti tl) (nG ti tl) else if n = 2 then pre (fun g => pre (on2 ti tl g) (nG ti tl)) (nG ti tl) else pre (fun g => pre (fun h => lif (g < h ∧ paP ti tl g h) (pre (on3 ti tl g h) (nG ti tl))) (nG ti tl)) (nG ti tl)) := lif_1 c'
    have goB : ∀ {g h : Nat}, g < 30 → h < 30 → b3 (((1 : Int32) <<< (nI g &&& 31)) ||| ((1 : Int32) <<< (nI h &&& 31))) = b3 (nI (2 ^ g ||| 2 ^ h)) := fun hg hh => by rw [pair_n hg hh]
    -- threes
    have P3 : n = 3 → ∀ mi ml, lM ti tl vi vl (0, -1) (nG ti tl) (nG ti tl) 0 mi ml → W_X12_findLeast_220 (cs ro (d + 4)) ro Q (nI n) w 0 mi ml := by
      intro hn mi ml L
      rw [hl, if_neg (by omega), if_neg (by omega)] at hQ
      refine up0 (n := nG ti tl) (F := fun g => ∀ mi ml, lM ti tl vi vl ((pre (fun g => pre (fun h => lif (g < h ∧ paP ti tl g h) (pre (on3 ti tl g h) (nG ti tl))) (nG ti tl)) g).foldl (mt w) (0, -1)) (nG ti tl) (nG ti tl) 0 mi ml → W_X12_findLeast_220 (cs ro (d + 4)) ro Q (nI n) w (nI g) mi ml) (fun g hg ih mi ml L => ?_) (fun mi ml L => ?_) mi ml L
      · refine vc_X12_findLeast_220 _ _ _ mi ml ?_
        simp (disch := omega) only [L.1.2.1, hg, show 2 < n by omega, nI_ltI, nI_eq, nI_clamp, nI_1, xl_0, xg_0, xe_0, xe_m1, nI_0, xl_1, xl_2, xl_3, xl_4, xl_5, xl_6, xl_7, xl_8, xl_9, xl_10, xl_12, xl_20, xl_30, xl_32, xl_40, xl_41, xl_42, xl_48, xl_57, xl_59, xl_64, xl_97, xl_100, xl_122, xl_126, xl_128, xl_1000, xl_9999, xg_1, xg_2, xg_3, xg_4, xg_5, xg_6, xg_7, xg_8, xg_9, xg_10, xg_12, xg_20, xg_30, xg_32, xg_40, xg_41, xg_42, xg_48, xg_57, xg_59, xg_64, xg_97, xg_100, xg_122, xg_126, xg_128, xg_1000, xg_9999, xe_1, xe_2, xe_3, xe_4, xe_5, xe_6, xe_7, xe_8, xe_9, xe_10, xe_12, xe_20, xe_30, xe_32, xe_40, xe_41, xe_42, xe_48, xe_57, xe_59, xe_64, xe_97, xe_100, xe_122, xe_126, xe_128, xe_1000, xe_9999, true_implies, false_implies, not_true_eq_false, not_false_eq_true, and_true, true_and, forall_const, imp_self, lc_eq, implies_true, vin, Bool.true_eq_false, Bool.false_eq_true, false_and, and_false, or_false, false_or, or_true, true_or]
        refine up (n := nG ti tl) (F := fun h => g < h → ∀ mi ml, lM ti tl vi vl ((pre (fun h => lif (g < h ∧ paP ti tl g h) (pre (on3 ti tl g h) (nG ti tl))) h).foldl (mt w) ((pre (fun g => pre (fun h => lif (g < h ∧ paP ti tl g h) (pre (on3 ti tl g h) (nG ti tl))) (nG ti tl)) g).foldl (mt w) (0, -1))) (nG ti tl) (nG ti tl) 0 mi ml → W_X12_findLeast_238 (cs ro (d + 4)) ro Q (nI n) w (nI g) (nI h) mi ml) (fun h hh ih2 hgh mi ml L => ?_) (fun hgh mi ml L => ?_) (g + 1) (by omega) (by omega) mi ml ?_
        · refine vc_X12_findLeast_238 _ _ _ _ mi ml ?_
          simp (disch := omega) only [L.1.2.1, hh, nI_ltI, nI_eq, nI_clamp, nI_1, xl_0, xg_0, xe_0, xe_m1, nI_0, xl_1, xl_2, xl_3, xl_4, xl_5, xl_6, xl_7, xl_8, xl_9, xl_10, xl_12, xl_20, xl_30, xl_32, xl_40, xl_41, xl_42, xl_48, xl_57, xl_59, xl_64, xl_97, xl_100, xl_122, xl_126, xl_128, xl_1000, xl_9999, xg_1, xg_2, xg_3, xg_4, xg_5, xg_6, xg_7, xg_8, xg_9, xg_10, xg_12, xg_20, xg_30, xg_32, xg_40, xg_41, xg_42, xg_48, xg_57, xg_59, xg_64, xg_97, xg_100, xg_122, xg_126, xg_128, xg_1000, xg_9999, xe_1, xe_2, xe_3, xe_4, xe_5, xe_6, xe_7, xe_8, xe_9, xe_10, xe_12, xe_20, xe_30, xe_32, xe_40, xe_41, xe_42, xe_48, xe_57, xe_59, xe_64, xe_97, xe_100, xe_122, xe_126, xe_128, xe_1000, xe_9999, true_implies, false_implies, not_true_eq_false, not_false_eq_true, and_true, true_and, forall_const, imp_self, lc_eq, implies_true, vin, Bool.true_eq_false, Bool.false_eq_true, false_and, and_false, or_false, false_or, or_true, true_or]
          have es : pre (fun h => lif (g < h ∧ paP ti tl g h) (pre (on3 ti tl g h) (nG ti tl))) (h + 1) = pre (fun h => lif (g < h ∧ paP ti tl g h) (pre (on3 ti tl g h) (nG ti tl))) h ++ lif (g < h ∧ paP ti tl g h) (pre (on3 ti tl g h) (nG ti tl)) := pre_s _ _
          have hnn : ∀ x y, x < y → y < nG ti tl → 30 * x + y < 900 := fun x y _ _ => by omega
          generalize hz : (pre (fun h => lif (g < h ∧ paP ti tl g h) (pre (on3 ti tl g h) (nG ti tl))) h).foldl (mt w) ((pre (fun g => pre (fun h => lif (g < h ∧ paP ti tl g h) (pre (on3 ti tl g h) (nG ti tl))) (nG ti tl)) g).foldl (mt w) (0, -1)) = z at *
          by_cases cp : paP ti tl g h
          · refine up (n := nG ti tl) (F := fun k => h < k → ∀ mi ml, lM ti tl vi vl ((pre (on3 ti tl g h) k).foldl (mt w) z) (nG ti tl) (nG ti tl) 0 mi ml → W_X12_findLeast_253 (cs ro (d + 4)) ro Q (nI n) w (nI g) (nI h) (nI k) mi ml) (fun k hk ih3 hhk mi ml L => ?_) (fun hhk mi ml L => ?_) (h + 1) (by omega) (by omega) mi ml (by rw [pre_nil (f := on3 ti tl g h) (fun j hj => by rw [on3, lif_0]; omega)]; exact L)
            · refine vc_X12_findLeast_253 _ _ _ _ _ mi ml ?_
              have q1 : mi 76 (30 * g + h) = pI (paP ti tl g h) := L.2.2.2 g h hgh hh (Or.inl (by omega))
              have q2 : mi 76 (30 * g + k) = pI (paP ti tl g k) := L.2.2.2 g k (by omega) hk (Or.inl (by omega))
              have q3 : mi 76 (30 * h + k) = pI (paP ti tl h k) := L.2.2.2 h k (by omega) hk (Or.inl (by omega))
              have n30 : ∀ x, (30 : Int32) * nI x = nI (30 * x) := fun x => nI_mul 30 x
              have hlt : 2 ^ g ||| 2 ^ h < 2 ^ 30 := or_lt (p2lt (by omega)) (by omega)
              rw [pair_n (by omega) (by omega), or_bit hlt (by omega)]
              simp (disch := omega) only [L.1.2.1, hk, n30, nI_add, q1, q2, q3, pI_e0, eq_true cp, nI_ltI, nI_eq, nI_clamp, nI_1, xl_0, xg_0, xe_0, xe_m1, nI_0, xl_1, xl_2, xl_3, xl_4, xl_5, xl_6, xl_7, xl_8, xl_9, xl_10, xl_12, xl_20, xl_30, xl_32, xl_40, xl_41, xl_42, xl_48, xl_57, xl_59, xl_64, xl_97, xl_100, xl_122, xl_126, xl_128, xl_1000, xl_9999, xg_1, xg_2, xg_3, xg_4, xg_5, xg_6, xg_7, xg_8, xg_9, xg_10, xg_12, xg_20, xg_30, xg_32, xg_40, xg_41, xg_42, xg_48, xg_57, xg_59, xg_64, xg_97, xg_100, xg_122, xg_126, xg_128, xg_1000, xg_9999, xe_1, xe_2, xe_3, xe_4, xe_5, xe_6, xe_7, xe_8, xe_9, xe_10, xe_12, xe_20, xe_30, xe_32, xe_40, xe_41, xe_42, xe_48, xe_57, xe_59, xe_64, xe_97, xe_100, xe_122, xe_126, xe_128, xe_1000, xe_9999, true_implies, false_implies, not_true_eq_false, not_false_eq_true, and_true, true_and, forall_const, imp_self, lc_eq, implies_true, vin, Bool.true_eq_false, Bool.false_eq_true, false_and, and_false, or_false, false_or, or_true, true_or]
              have skip : ∀ mi ml, lM ti tl vi vl ((pre (on3 ti tl g h) k).foldl (mt w) z) (nG ti tl) (nG ti tl) 0 mi ml → ¬ (paP ti tl g k ∧ paP ti tl h k ∧ ¬ goN ti tl (2 ^ g ||| 2 ^ h ||| 2 ^ k)) → W_X12_findLeast_253 (cs ro (d + 4)) ro Q (nI n) w (nI g) (nI h) (nI (k + 1)) mi ml := fun mi ml L hno => by
                refine ih3 (by omega) mi ml ?_
                rw [pre_s, List.foldl_append, on3, lif_0 (fun q => hno q.2)]; exact L
              refine ⟨fun c1 => skip mi ml L (fun q => c1 q.1), fun c1 => ⟨fun c2 => skip mi ml L (fun q => c2 q.2.1), fun c2 => ?_⟩⟩
              obtain ⟨mi5, ml5, s5, F5⟩ := s_goTogether (ro := ro) (d := d + 1) O OM L.1 (nI (2 ^ g ||| 2 ^ h ||| 2 ^ k))
              refine ⟨_, _, _, s5, ?_⟩
              rw [pI_e0]
              refine ⟨fun c3 => ?_, fun c3 => skip _ _ (L.fr F5) (fun q => c3 q.2.2)⟩
              obtain ⟨mi6, s6, L6⟩ := s_findsL (ro := ro) (d := d + 3) (w := w) (L.fr F5) (2 ^ g ||| 2 ^ h ||| 2 ^ k)
              refine ⟨_, _, s6, ih3 (by omega) _ _ ?_⟩
              rw [pre_s, List.foldl_append, on3, lif_1 ⟨hhk, Classical.not_not.1 c1, Classical.not_not.1 c2, c3⟩]
              exact L6
            · refine vc_X12_findLeast_253 _ _ _ _ _ mi ml ?_
              simp (disch := omega) only [L.1.2.1, Nat.lt_irrefl, nI_ltI, nI_eq, nI_clamp, nI_1, xl_0, xg_0, xe_0, xe_m1, nI_0, xl_1, xl_2, xl_3, xl_4, xl_5, xl_6, xl_7, xl_8, xl_9, xl_10, xl_12, xl_20, xl_30, xl_32, xl_40, xl_41, xl_42, xl_48, xl_57, xl_59, xl_64, xl_97, xl_100, xl_122, xl_126, xl_128, xl_1000, xl_9999, xg_1, xg_2, xg_3, xg_4, xg_5, xg_6, xg_7, xg_8, xg_9, xg_10, xg_12, xg_20, xg_30, xg_32, xg_40, xg_41, xg_42, xg_48, xg_57, xg_59, xg_64, xg_97, xg_100, xg_122, xg_126, xg_128, xg_1000, xg_9999, xe_1, xe_2, xe_3, xe_4, xe_5, xe_6, xe_7, xe_8, xe_9, xe_10, xe_12, xe_20, xe_30, xe_32, xe_40, xe_41, xe_42, xe_48, xe_57, xe_59, xe_64, xe_97, xe_100, xe_122, xe_126, xe_128, xe_1000, xe_9999, true_implies, false_implies, not_true_eq_false, not_false_eq_true, and_true, true_and, forall_const, imp_self, lc_eq, implies_true, vin, Bool.true_eq_false, Bool.false_eq_true, false_and, and_false, or_false, false_or, or_true, true_or]
              refine ih2 (by omega) mi ml ?_
              rw [es, List.foldl_append, lif_1 ⟨hgh, cp⟩, hz]; exact L
          · have nx : W_X12_findLeast_238 (cs ro (d + 4)) ro Q (nI n) w (nI g) (nI (h + 1)) mi ml := ih2 (by omega) mi ml (by rw [es, List.foldl_append, lif_0 (fun q => cp q.2), hz]; exact L)
            refine vc_X12_findLeast_253 _ _ _ _ _ mi ml ?_
            have q1 : mi 76 (30 * g + h) = pI (paP ti tl g h) := L.2.2.2 g h hgh hh (Or.inl (by omega))
            have n30 : ∀ x, (30 : Int32) * nI x = nI (30 * x) := fun x => nI_mul 30 x
            simp (disch := omega) only [L.1.2.1, n30, nI_add, q1, pI_e0, cp, nI_ltI, nI_eq, nI_clamp, nI_1, xl_0, xg_0, xe_0, xe_m1, nI_0, xl_1, xl_2, xl_3, xl_4, xl_5, xl_6, xl_7, xl_8, xl_9, xl_10, xl_12, xl_20, xl_30, xl_32, xl_40, xl_41, xl_42, xl_48, xl_57, xl_59, xl_64, xl_97, xl_100, xl_122, xl_126, xl_128, xl_1000, xl_9999, xg_1, xg_2, xg_3, xg_4, xg_5, xg_6, xg_7, xg_8, xg_9, xg_10, xg_12, xg_20, xg_30, xg_32, xg_40, xg_41, xg_42, xg_48, xg_57, xg_59, xg_64, xg_97, xg_100, xg_122, xg_126, xg_128, xg_1000, xg_9999, xe_1, xe_2, xe_3, xe_4, xe_5, xe_6, xe_7, xe_8, xe_9, xe_10, xe_12, xe_20, xe_30, xe_32, xe_40, xe_41, xe_42, xe_48, xe_57, xe_59, xe_64, xe_97, xe_100, xe_122, xe_126, xe_128, xe_1000, xe_9999, true_implies, false_implies, not_true_eq_false, not_false_eq_true, and_true, true_and, forall_const, imp_self, lc_eq, implies_true, vin, Bool.true_eq_false, Bool.false_eq_true, false_and, and_false, or_false, false_or, or_true, true_or]
            exact ⟨fun _ => nx, fun _ => nx⟩
        · refine vc_X12_findLeast_238 _ _ _ _ mi ml ?_
          simp (disch := omega) only [L.1.2.1, Nat.lt_irrefl, nI_ltI, nI_eq, nI_clamp, nI_1, xl_0, xg_0, xe_0, xe_m1, nI_0, xl_1, xl_2, xl_3, xl_4, xl_5, xl_6, xl_7, xl_8, xl_9, xl_10, xl_12, xl_20, xl_30, xl_32, xl_40, xl_41, xl_42, xl_48, xl_57, xl_59, xl_64, xl_97, xl_100, xl_122, xl_126, xl_128, xl_1000, xl_9999, xg_1, xg_2, xg_3, xg_4, xg_5, xg_6, xg_7, xg_8, xg_9, xg_10, xg_12, xg_20, xg_30, xg_32, xg_40, xg_41, xg_42, xg_48, xg_57, xg_59, xg_64, xg_97, xg_100, xg_122, xg_126, xg_128, xg_1000, xg_9999, xe_1, xe_2, xe_3, xe_4, xe_5, xe_6, xe_7, xe_8, xe_9, xe_10, xe_12, xe_20, xe_30, xe_32, xe_40, xe_41, xe_42, xe_48, xe_57, xe_59, xe_64, xe_97, xe_100, xe_122, xe_126, xe_128, xe_1000, xe_9999, true_implies, false_implies, not_true_eq_false, not_false_eq_true, and_true, true_and, forall_const, imp_self, lc_eq, implies_true, vin, Bool.true_eq_false, Bool.false_eq_true, false_and, and_false, or_false, false_or, or_true, true_or]
          refine ih mi ml ?_
          rw [pre_s, List.foldl_append]; exact L
        · rw [pre_nil (f := fun h => lif (g < h ∧ paP ti tl g h) (pre (on3 ti tl g h) (nG ti tl))) (fun j hj => by rw [lif_0]; omega)]; exact L
      · refine vc_X12_findLeast_220 _ _ _ mi ml ?_
        simp (disch := omega) only [L.1.2.1, Nat.lt_irrefl, nI_ltI, nI_eq, nI_clamp, nI_1, xl_0, xg_0, xe_0, xe_m1, nI_0, xl_1, xl_2, xl_3, xl_4, xl_5, xl_6, xl_7, xl_8, xl_9, xl_10, xl_12, xl_20, xl_30, xl_32, xl_40, xl_41, xl_42, xl_48, xl_57, xl_59, xl_64, xl_97, xl_100, xl_122, xl_126, xl_128, xl_1000, xl_9999, xg_1, xg_2, xg_3, xg_4, xg_5, xg_6, xg_7, xg_8, xg_9, xg_10, xg_12, xg_20, xg_30, xg_32, xg_40, xg_41, xg_42, xg_48, xg_57, xg_59, xg_64, xg_97, xg_100, xg_122, xg_126, xg_128, xg_1000, xg_9999, xe_1, xe_2, xe_3, xe_4, xe_5, xe_6, xe_7, xe_8, xe_9, xe_10, xe_12, xe_20, xe_30, xe_32, xe_40, xe_41, xe_42, xe_48, xe_57, xe_59, xe_64, xe_97, xe_100, xe_122, xe_126, xe_128, xe_1000, xe_9999, true_implies, false_implies, not_true_eq_false, not_false_eq_true, and_true, true_and, forall_const, imp_self, lc_eq, implies_true, vin, Bool.true_eq_false, Bool.false_eq_true, false_and, and_false, or_false, false_or, or_true, true_or]
        exact hQ _ _ ⟨L.1, L.2.1⟩
    -- a third loop with nothing to do
    have P3' : ¬ n = 3 → ∀ mi ml, mP ti tl vi vl mi ml → fOK ((lsts ti tl n).foldl (mt w) (0, -1)) mi → W_X12_findLeast_220 (cs ro (d + 4)) ro Q (nI n) w 0 mi ml := by
      intro hn mi ml M F
      refine vc_X12_findLeast_220 _ _ _ mi ml ?_
      simp (disch := omega) only [M.2.1, show ¬ 2 < n by omega, nI_ltI, nI_eq, nI_clamp, nI_1, xl_0, xg_0, xe_0, xe_m1, nI_0, xl_1, xl_2, xl_3, xl_4, xl_5, xl_6, xl_7, xl_8, xl_9, xl_10, xl_12, xl_20, xl_30, xl_32, xl_40, xl_41, xl_42, xl_48, xl_57, xl_59, xl_64, xl_97, xl_100, xl_122, xl_126, xl_128, xl_1000, xl_9999, xg_1, xg_2, xg_3, xg_4, xg_5, xg_6, xg_7, xg_8, xg_9, xg_10, xg_12, xg_20, xg_30, xg_32, xg_40, xg_41, xg_42, xg_48, xg_57, xg_59, xg_64, xg_97, xg_100, xg_122, xg_126, xg_128, xg_1000, xg_9999, xe_1, xe_2, xe_3, xe_4, xe_5, xe_6, xe_7, xe_8, xe_9, xe_10, xe_12, xe_20, xe_30, xe_32, xe_40, xe_41, xe_42, xe_48, xe_57, xe_59, xe_64, xe_97, xe_100, xe_122, xe_126, xe_128, xe_1000, xe_9999, true_implies, false_implies, not_true_eq_false, not_false_eq_true, and_true, true_and, forall_const, imp_self, lc_eq, implies_true, vin, Bool.true_eq_false, Bool.false_eq_true, false_and, and_false, or_false, false_or, or_true, true_or]
      exact ⟨fun _ => hQ _ _ ⟨M, F⟩, fun _ => hQ _ _ ⟨M, F⟩⟩
    -- twos
    have P2 : 1 < n → ∀ mi ml, lM ti tl vi vl (0, -1) (nG ti tl) 0 0 mi ml → W_X12_findLeast_76 (cs ro (d + 4)) ro Q (nI n) w 0 mi ml := by
      intro hn mi ml L
      refine up0 (n := nG ti tl) (F := fun g => ∀ mi ml, lM ti tl vi vl (if n = 2 then (pre (fun g => pre (on2 ti tl g) (nG ti tl)) g).foldl (mt w) (0, -1) else (0, -1)) (nG ti tl) g 0 mi ml → W_X12_findLeast_76 (cs ro (d + 4)) ro Q (nI n) w (nI g) mi ml) (fun g hg ih mi ml L => ?_) (fun mi ml L => ?_) mi ml (by
        have : (if n = 2 then (pre (fun g => pre (on2 ti tl g) (nG ti tl)) 0).foldl (mt w) (0, -1) else (0, -1)) = ((0, -1) : Int32 × Int32) := by split <;> rfl
        rw [this]; exact L)
      · refine vc_X12_findLeast_76 _ _ _ mi ml ?_
        simp (disch := omega) only [L.1.2.1, hg, hn, nI_ltI, nI_eq, nI_clamp, nI_1, xl_0, xg_0, xe_0, xe_m1, nI_0, xl_1, xl_2, xl_3, xl_4, xl_5, xl_6, xl_7, xl_8, xl_9, xl_10, xl_12, xl_20, xl_30, xl_32, xl_40, xl_41, xl_42, xl_48, xl_57, xl_59, xl_64, xl_97, xl_100, xl_122, xl_126, xl_128, xl_1000, xl_9999, xg_1, xg_2, xg_3, xg_4, xg_5, xg_6, xg_7, xg_8, xg_9, xg_10, xg_12, xg_20, xg_30, xg_32, xg_40, xg_41, xg_42, xg_48, xg_57, xg_59, xg_64, xg_97, xg_100, xg_122, xg_126, xg_128, xg_1000, xg_9999, xe_1, xe_2, xe_3, xe_4, xe_5, xe_6, xe_7, xe_8, xe_9, xe_10, xe_12, xe_20, xe_30, xe_32, xe_40, xe_41, xe_42, xe_48, xe_57, xe_59, xe_64, xe_97, xe_100, xe_122, xe_126, xe_128, xe_1000, xe_9999, true_implies, false_implies, not_true_eq_false, not_false_eq_true, and_true, true_and, forall_const, imp_self, lc_eq, implies_true, vin, Bool.true_eq_false, Bool.false_eq_true, false_and, and_false, or_false, false_or, or_true, true_or]
        refine up (n := nG ti tl) (F := fun h => g < h → ∀ mi ml, lM ti tl vi vl (if n = 2 then (pre (on2 ti tl g) h).foldl (mt w) ((pre (fun g => pre (on2 ti tl g) (nG ti tl)) g).foldl (mt w) (0, -1)) else (0, -1)) (nG ti tl) g h mi ml → W_X12_findLeast_94 (cs ro (d + 4)) ro Q (nI n) w (nI g) (nI h) mi ml) (fun h hh ih2 hgh mi ml L => ?_) (fun hgh mi ml L => ?_) (g + 1) (by omega) (by omega) mi ml ?_
        · refine vc_X12_findLeast_94 _ _ _ _ mi ml ?_
          have n30 : ∀ x, (30 : Int32) * nI x = nI (30 * x) := fun x => nI_mul 30 x
          have a1 := L.2.2.1 g (by omega)
          have a2 := L.2.2.1 h (by omega)
          have hi : 30 * g + h < 900 := by omega
          have es : pre (on2 ti tl g) (h + 1) = pre (on2 ti tl g) h ++ on2 ti tl g h := pre_s _ _
          generalize (pre (fun g => pre (on2 ti tl g) (nG ti tl)) g).foldl (mt w) (0, -1) = z at *
          -- what the pair's cell is
          have upd : ∀ {mi : cM1} {ml : cM2} {zz : Int32 × Int32} (v : Int32), v = pI (paP ti tl g h) → lM ti tl vi vl zz (nG ti tl) g h mi ml → lM ti tl vi vl zz (nG ti tl) g (h + 1) (ab_ui mi 76 (30 * g + h) v) ml := by
            intro mi ml zz v hv L
            refine ⟨L.1.ui _ rfl rfl (by decide), ⟨by simp [ui_app]; exact L.2.1.1, by simp [ui_app]; exact L.2.1.2⟩, fun x hx => by simp [ui_app]; exact L.2.2.1 x hx, fun x y q1 q2 q3 => ?_⟩
            rw [ui_app, if_pos rfl]
            by_cases e : 30 * x + y = 30 * g + h
            · have ex : x = g := by omega
              have ey : y = h := by omega
              rw [if_pos e, ex, ey]; exact hv
            · rw [if_neg e]
              exact L.2.2.2 x y q1 q2 (by omega)
          have skip : ∀ mi ml, lM ti tl vi vl (if n = 2 then (pre (on2 ti tl g) h).foldl (mt w) z else (0, -1)) (nG ti tl) g (h + 1) mi ml → ¬ (n = 2 ∧ alP1 ti tl g ∧ alP1 ti tl h ∧ ¬ goN ti tl (2 ^ g ||| 2 ^ h)) → W_X12_findLeast_94 (cs ro (d + 4)) ro Q (nI n) w (nI g) (nI (h + 1)) mi ml := fun mi ml L hno => by
            refine ih2 (by omega) mi ml ?_
            by_cases e2 : n = 2
            · rw [if_pos e2] at L ⊢
              rw [es, List.foldl_append, on2, lif_0 (fun q => hno ⟨e2, q.2⟩)]; exact L
            · rw [if_neg e2] at L ⊢; exact L
          by_cases cg : alP1 ti tl g
          · rw [pI_1 cg] at a1
            have e10 : ((1 : Int32) = 0) = False := eq_false (by decide)
            have e00 : ((0 : Int32) = 0) = True := eq_true rfl
            by_cases ch : alP1 ti tl h
            · rw [pI_1 ch] at a2
              obtain ⟨mi5, ml5, s5, F5⟩ := s_goTogether (ro := ro) (d := d + 1) O OM L.1 (nI (2 ^ g ||| 2 ^ h))
              have L5 := L.fr F5
              have b1 : mi5 75 g = 1 := (F5.1 75 g rfl).trans a1
              have b2 : mi5 75 h = 1 := (F5.1 75 h rfl).trans a2
              have v0 : ∀ v, ab_ui mi5 76 (30 * g + h) v 76 (30 * g + h) = v := fun v => by simp [ui_app]
              rw [pair_n (by omega) (by omega)]
              simp (disch := omega) only [L.1.2.1, hh, n30, nI_add, a1, a2, e10, nI_ltI, nI_eq, nI_clamp, nI_1, xl_0, xg_0, xe_0, xe_m1, nI_0, xl_1, xl_2, xl_3, xl_4, xl_5, xl_6, xl_7, xl_8, xl_9, xl_10, xl_12, xl_20, xl_30, xl_32, xl_40, xl_41, xl_42, xl_48, xl_57, xl_59, xl_64, xl_97, xl_100, xl_122, xl_126, xl_128, xl_1000, xl_9999, xg_1, xg_2, xg_3, xg_4, xg_5, xg_6, xg_7, xg_8, xg_9, xg_10, xg_12, xg_20, xg_30, xg_32, xg_40, xg_41, xg_42, xg_48, xg_57, xg_59, xg_64, xg_97, xg_100, xg_122, xg_126, xg_128, xg_1000, xg_9999, xe_1, xe_2, xe_3, xe_4, xe_5, xe_6, xe_7, xe_8, xe_9, xe_10, xe_12, xe_20, xe_30, xe_32, xe_40, xe_41, xe_42, xe_48, xe_57, xe_59, xe_64, xe_97, xe_100, xe_122, xe_126, xe_128, xe_1000, xe_9999, true_implies, false_implies, not_true_eq_false, not_false_eq_true, and_true, true_and, forall_const, imp_self, lc_eq, implies_true, vin, Bool.true_eq_false, Bool.false_eq_true, false_and, and_false, or_false, false_or, or_true, true_or]
              refine ⟨_, _, _, s5, ?_⟩
              simp (disch := omega) only [n30, nI_add, b1, b2, e10, e00, nar_0, nar_1, v0, pI_e0, nI_ltI, nI_eq, nI_clamp, nI_1, xl_0, xg_0, xe_0, xe_m1, nI_0, xl_1, xl_2, xl_3, xl_4, xl_5, xl_6, xl_7, xl_8, xl_9, xl_10, xl_12, xl_20, xl_30, xl_32, xl_40, xl_41, xl_42, xl_48, xl_57, xl_59, xl_64, xl_97, xl_100, xl_122, xl_126, xl_128, xl_1000, xl_9999, xg_1, xg_2, xg_3, xg_4, xg_5, xg_6, xg_7, xg_8, xg_9, xg_10, xg_12, xg_20, xg_30, xg_32, xg_40, xg_41, xg_42, xg_48, xg_57, xg_59, xg_64, xg_97, xg_100, xg_122, xg_126, xg_128, xg_1000, xg_9999, xe_1, xe_2, xe_3, xe_4, xe_5, xe_6, xe_7, xe_8, xe_9, xe_10, xe_12, xe_20, xe_30, xe_32, xe_40, xe_41, xe_42, xe_48, xe_57, xe_59, xe_64, xe_97, xe_100, xe_122, xe_126, xe_128, xe_1000, xe_9999, true_implies, false_implies, not_true_eq_false, not_false_eq_true, and_true, true_and, forall_const, imp_self, lc_eq, implies_true, vin, Bool.true_eq_false, Bool.false_eq_true, false_and, and_false, or_false, false_or, or_true, true_or]
              refine ⟨fun c3 => ⟨fun e2 => ?_, fun e2 => skip _ _ (upd 0 (pI_0 (fun q => c3 q.2.2)).symm L5) (fun q => e2 q.1)⟩, fun c3 => ?_⟩
              · obtain ⟨mi6, s6, L6⟩ := s_findsL (ro := ro) (d := d + 3) (w := w) (upd 0 (pI_0 (fun q => c3 q.2.2)).symm L5) (2 ^ g ||| 2 ^ h)
                refine ⟨_, _, s6, ih2 (by omega) _ _ ?_⟩
                rw [if_pos e2] at L6 ⊢
                rw [es, List.foldl_append, on2, lif_1 ⟨hgh, cg, ch, c3⟩]
                exact L6
              · have nx := skip _ _ (upd 1 (pI_1 ⟨cg, ch, Classical.not_not.1 c3⟩).symm L5) (fun q => c3 q.2.2.2)
                exact ⟨fun _ => nx, fun _ => nx⟩
            · rw [pI_0 ch] at a2
              have nx := skip _ _ (upd 0 (pI_0 (fun q => ch q.2.1)).symm L) (fun q => ch q.2.2.1)
              simp (disch := omega) only [L.1.2.1, hh, n30, nI_add, a1, a2, e10, e00, nar_0, nI_ltI, nI_eq, nI_clamp, nI_1, xl_0, xg_0, xe_0, xe_m1, nI_0, xl_1, xl_2, xl_3, xl_4, xl_5, xl_6, xl_7, xl_8, xl_9, xl_10, xl_12, xl_20, xl_30, xl_32, xl_40, xl_41, xl_42, xl_48, xl_57, xl_59, xl_64, xl_97, xl_100, xl_122, xl_126, xl_128, xl_1000, xl_9999, xg_1, xg_2, xg_3, xg_4, xg_5, xg_6, xg_7, xg_8, xg_9, xg_10, xg_12, xg_20, xg_30, xg_32, xg_40, xg_41, xg_42, xg_48, xg_57, xg_59, xg_64, xg_97, xg_100, xg_122, xg_126, xg_128, xg_1000, xg_9999, xe_1, xe_2, xe_3, xe_4, xe_5, xe_6, xe_7, xe_8, xe_9, xe_10, xe_12, xe_20, xe_30, xe_32, xe_40, xe_41, xe_42, xe_48, xe_57, xe_59, xe_64, xe_97, xe_100, xe_122, xe_126, xe_128, xe_1000, xe_9999, true_implies, false_implies, not_true_eq_false, not_false_eq_true, and_true, true_and, forall_const, imp_self, lc_eq, implies_true, vin, Bool.true_eq_false, Bool.false_eq_true, false_and, and_false, or_false, false_or, or_true, true_or]
              exact ⟨fun _ => nx, fun _ => nx⟩
          · rw [pI_0 cg] at a1
            have e00 : ((0 : Int32) = 0) = True := eq_true rfl
            have nx := skip _ _ (upd 0 (pI_0 (fun q => cg q.1)).symm L) (fun q => cg q.2.1)
            simp (disch := omega) only [L.1.2.1, hh, n30, nI_add, a1, e00, nar_0, nI_ltI, nI_eq, nI_clamp, nI_1, xl_0, xg_0, xe_0, xe_m1, nI_0, xl_1, xl_2, xl_3, xl_4, xl_5, xl_6, xl_7, xl_8, xl_9, xl_10, xl_12, xl_20, xl_30, xl_32, xl_40, xl_41, xl_42, xl_48, xl_57, xl_59, xl_64, xl_97, xl_100, xl_122, xl_126, xl_128, xl_1000, xl_9999, xg_1, xg_2, xg_3, xg_4, xg_5, xg_6, xg_7, xg_8, xg_9, xg_10, xg_12, xg_20, xg_30, xg_32, xg_40, xg_41, xg_42, xg_48, xg_57, xg_59, xg_64, xg_97, xg_100, xg_122, xg_126, xg_128, xg_1000, xg_9999, xe_1, xe_2, xe_3, xe_4, xe_5, xe_6, xe_7, xe_8, xe_9, xe_10, xe_12, xe_20, xe_30, xe_32, xe_40, xe_41, xe_42, xe_48, xe_57, xe_59, xe_64, xe_97, xe_100, xe_122, xe_126, xe_128, xe_1000, xe_9999, true_implies, false_implies, not_true_eq_false, not_false_eq_true, and_true, true_and, forall_const, imp_self, lc_eq, implies_true, vin, Bool.true_eq_false, Bool.false_eq_true, false_and, and_false, or_false, false_or, or_true, true_or]
            exact ⟨fun _ => nx, fun _ => nx⟩
        · refine vc_X12_findLeast_94 _ _ _ _ mi ml ?_
          simp (disch := omega) only [L.1.2.1, Nat.lt_irrefl, nI_ltI, nI_eq, nI_clamp, nI_1, xl_0, xg_0, xe_0, xe_m1, nI_0, xl_1, xl_2, xl_3, xl_4, xl_5, xl_6, xl_7, xl_8, xl_9, xl_10, xl_12, xl_20, xl_30, xl_32, xl_40, xl_41, xl_42, xl_48, xl_57, xl_59, xl_64, xl_97, xl_100, xl_122, xl_126, xl_128, xl_1000, xl_9999, xg_1, xg_2, xg_3, xg_4, xg_5, xg_6, xg_7, xg_8, xg_9, xg_10, xg_12, xg_20, xg_30, xg_32, xg_40, xg_41, xg_42, xg_48, xg_57, xg_59, xg_64, xg_97, xg_100, xg_122, xg_126, xg_128, xg_1000, xg_9999, xe_1, xe_2, xe_3, xe_4, xe_5, xe_6, xe_7, xe_8, xe_9, xe_10, xe_12, xe_20, xe_30, xe_32, xe_40, xe_41, xe_42, xe_48, xe_57, xe_59, xe_64, xe_97, xe_100, xe_122, xe_126, xe_128, xe_1000, xe_9999, true_implies, false_implies, not_true_eq_false, not_false_eq_true, and_true, true_and, forall_const, imp_self, lc_eq, implies_true, vin, Bool.true_eq_false, Bool.false_eq_true, false_and, and_false, or_false, false_or, or_true, true_or]
          refine ih mi ml ⟨L.1, ?_, L.2.2.1, fun x y q1 q2 q3 => L.2.2.2 x y q1 q2 (by omega)⟩
          have := L.2.1
          by_cases e2 : n = 2
          · rw [if_pos e2] at this ⊢
            rw [pre_s, List.foldl_append]; exact this
          · rw [if_neg e2] at this ⊢; exact this
        · have e : pre (on2 ti tl g) (g + 1) = [] := pre_nil (fun j hj => by rw [on2, lif_0]; omega)
          rw [e]
          exact ⟨L.1, L.2.1, L.2.2.1, fun x y q1 q2 q3 => L.2.2.2 x y q1 q2 (by omega)⟩
      · refine vc_X12_findLeast_76 _ _ _ mi ml ?_
        simp (disch := omega) only [L.1.2.1, Nat.lt_irrefl, nI_ltI, nI_eq, nI_clamp, nI_1, xl_0, xg_0, xe_0, xe_m1, nI_0, xl_1, xl_2, xl_3, xl_4, xl_5, xl_6, xl_7, xl_8, xl_9, xl_10, xl_12, xl_20, xl_30, xl_32, xl_40, xl_41, xl_42, xl_48, xl_57, xl_59, xl_64, xl_97, xl_100, xl_122, xl_126, xl_128, xl_1000, xl_9999, xg_1, xg_2, xg_3, xg_4, xg_5, xg_6, xg_7, xg_8, xg_9, xg_10, xg_12, xg_20, xg_30, xg_32, xg_40, xg_41, xg_42, xg_48, xg_57, xg_59, xg_64, xg_97, xg_100, xg_122, xg_126, xg_128, xg_1000, xg_9999, xe_1, xe_2, xe_3, xe_4, xe_5, xe_6, xe_7, xe_8, xe_9, xe_10, xe_12, xe_20, xe_30, xe_32, xe_40, xe_41, xe_42, xe_48, xe_57, xe_59, xe_64, xe_97, xe_100, xe_122, xe_126, xe_128, xe_1000, xe_9999, true_implies, false_implies, not_true_eq_false, not_false_eq_true, and_true, true_and, forall_const, imp_self, lc_eq, implies_true, vin, Bool.true_eq_false, Bool.false_eq_true, false_and, and_false, or_false, false_or, or_true, true_or]
        by_cases e2 : n = 2
        · rw [if_pos e2] at L
          refine P3' (by omega) mi ml L.1 ?_
          rw [hl, if_neg (by omega), if_pos e2]; exact L.2.1
        · rw [if_neg e2] at L
          exact P3 (by omega) mi ml L
    have P2' : ¬ 1 < n → ∀ mi ml, mP ti tl vi vl mi ml → fOK ((lsts ti tl n).foldl (mt w) (0, -1)) mi → W_X12_findLeast_76 (cs ro (d + 4)) ro Q (nI n) w 0 mi ml := by
      intro hn mi ml M F
      refine vc_X12_findLeast_76 _ _ _ mi ml ?_
      have nx := P3' (by omega) mi ml M F
      simp (disch := omega) only [M.2.1, hn, nI_ltI, nI_eq, nI_clamp, nI_1, xl_0, xg_0, xe_0, xe_m1, nI_0, xl_1, xl_2, xl_3, xl_4, xl_5, xl_6, xl_7, xl_8, xl_9, xl_10, xl_12, xl_20, xl_30, xl_32, xl_40, xl_41, xl_42, xl_48, xl_57, xl_59, xl_64, xl_97, xl_100, xl_122, xl_126, xl_128, xl_1000, xl_9999, xg_1, xg_2, xg_3, xg_4, xg_5, xg_6, xg_7, xg_8, xg_9, xg_10, xg_12, xg_20, xg_30, xg_32, xg_40, xg_41, xg_42, xg_48, xg_57, xg_59, xg_64, xg_97, xg_100, xg_122, xg_126, xg_128, xg_1000, xg_9999, xe_1, xe_2, xe_3, xe_4, xe_5, xe_6, xe_7, xe_8, xe_9, xe_10, xe_12, xe_20, xe_30, xe_32, xe_40, xe_41, xe_42, xe_48, xe_57, xe_59, xe_64, xe_97, xe_100, xe_122, xe_126, xe_128, xe_1000, xe_9999, true_implies, false_implies, not_true_eq_false, not_false_eq_true, and_true, true_and, forall_const, imp_self, lc_eq, implies_true, vin, Bool.true_eq_false, Bool.false_eq_true, false_and, and_false, or_false, false_or, or_true, true_or]
      exact ⟨fun _ => nx, fun _ => nx⟩
    -- ones
    refine up0 (n := nG ti tl) (F := fun g => ∀ mi ml, mP ti tl vi vl mi ml → fOK (if n = 1 then (pre (on1 ti tl) g).foldl (mt w) (0, -1) else (0, -1)) mi → (∀ h, h < g → mi 75 h = pI (alP1 ti tl h)) → W_X12_findLeast_25 (cs ro (d + 4)) ro Q (nI n) w (nI g) mi ml) (fun g hg ih mi ml M F A => ?_) (fun mi ml M F A => ?_) mi3 ml3 (M2.fr F3) (by
        have : (if n = 1 then (pre (on1 ti tl) 0).foldl (mt w) (0, -1) else (0, -1)) = ((0, -1) : Int32 × Int32) := by split <;> rfl
        rw [this]; exact ⟨(F3.1 40 55 rfl).trans F2.1, (F3.1 40 56 rfl).trans F2.2⟩) (fun h hh => absurd hh (Nat.not_lt_zero h))
    · refine vc_X12_findLeast_25 _ _ _ mi ml ?_
      obtain ⟨mi5, ml5, s5, F5⟩ := s_goTogether (ro := ro) (d := d + 1) O OM M (nI (2 ^ g))
      have M5 := M.fr F5
      have es : pre (on1 ti tl) (g + 1) = pre (on1 ti tl) g ++ on1 ti tl g := pre_s _ _
      have M6 : mP ti tl vi vl (ab_ui mi5 75 g (pI (alP1 ti tl g))) ml5 := M5.ui _ rfl rfl (by decide)
      have F6 : fOK (if n = 1 then (pre (on1 ti tl) g).foldl (mt w) (0, -1) else (0, -1)) (ab_ui mi5 75 g (pI (alP1 ti tl g))) := ⟨by simp only [ui_app]; simpa using (F5.1 40 55 rfl).trans F.1, by simp only [ui_app]; simpa using (F5.1 40 56 rfl).trans F.2⟩
      have A6 : ∀ h, h < g + 1 → ab_ui mi5 75 g (pI (alP1 ti tl g)) 75 h = pI (alP1 ti tl h) := fun h hh => by
        rw [ui_app, if_pos rfl]
        by_cases e : h = g
        · rw [if_pos e, e]
        · rw [if_neg e, F5.1 75 h rfl]; exact A h (by omega)
      have e75 : ab_ui mi5 75 g (pI (alP1 ti tl g)) 75 g = pI (alP1 ti tl g) := A6 g (by omega)
      rw [bit_n (by omega)]
      simp (disch := omega) only [M.2.1, hg, nI_ltI, nI_eq, nI_clamp, nI_1, xl_0, xg_0, xe_0, xe_m1, nI_0, xl_1, xl_2, xl_3, xl_4, xl_5, xl_6, xl_7, xl_8, xl_9, xl_10, xl_12, xl_20, xl_30, xl_32, xl_40, xl_41, xl_42, xl_48, xl_57, xl_59, xl_64, xl_97, xl_100, xl_122, xl_126, xl_128, xl_1000, xl_9999, xg_1, xg_2, xg_3, xg_4, xg_5, xg_6, xg_7, xg_8, xg_9, xg_10, xg_12, xg_20, xg_30, xg_32, xg_40, xg_41, xg_42, xg_48, xg_57, xg_59, xg_64, xg_97, xg_100, xg_122, xg_126, xg_128, xg_1000, xg_9999, xe_1, xe_2, xe_3, xe_4, xe_5, xe_6, xe_7, xe_8, xe_9, xe_10, xe_12, xe_20, xe_30, xe_32, xe_40, xe_41, xe_42, xe_48, xe_57, xe_59, xe_64, xe_97, xe_100, xe_122, xe_126, xe_128, xe_1000, xe_9999, true_implies, false_implies, not_true_eq_false, not_false_eq_true, and_true, true_and, forall_const, imp_self, lc_eq, implies_true, vin, Bool.true_eq_false, Bool.false_eq_true, false_and, and_false, or_false, false_or, or_true, true_or]
      have ea : pI (goeP ti tl (b3 (nI (2 ^ g)))) = pI (alP1 ti tl g) := rfl
      refine ⟨_, _, _, s5, ?_⟩
      rw [nar_p, ea, e75, pI_e0]
      refine ⟨fun e1 => ⟨fun c1 => ?_, fun c1 => ih _ _ M6 ?_ A6⟩, fun e1 => ih _ _ M6 ?_ A6⟩
      · obtain ⟨mi7, s7, F7, K7⟩ := s_finds (ro := ro) (d := d + 3) (ml := ml5) (w := w) F6 (2 ^ g)
        refine ⟨_, _, s7, ih _ _ (M6.ofi (fun k j h => K7 k j (fun q => ?_))) ?_ (fun h hh => ?_)⟩
        · rcases q with ⟨q1, q2 | q2⟩ <;> rw [q1, q2] at h <;> rcases h with h | h | h <;> revert h <;> decide
        · rw [if_pos e1] at F7 ⊢
          rw [es, List.foldl_append, on1, lif_1 c1]; exact F7
        · rw [K7 75 h (fun q => by cases q.1)]; exact A6 h hh
      · rw [if_pos e1] at F6 ⊢
        rw [es, List.foldl_append, on1, lif_0 c1]; exact F6
      · rw [if_neg e1] at F6 ⊢; exact F6
    · refine vc_X12_findLeast_25 _ _ _ mi ml ?_
      simp (disch := omega) only [M.2.1, Nat.lt_irrefl, nI_ltI, nI_eq, nI_clamp, nI_1, xl_0, xg_0, xe_0, xe_m1, nI_0, xl_1, xl_2, xl_3, xl_4, xl_5, xl_6, xl_7, xl_8, xl_9, xl_10, xl_12, xl_20, xl_30, xl_32, xl_40, xl_41, xl_42, xl_48, xl_57, xl_59, xl_64, xl_97, xl_100, xl_122, xl_126, xl_128, xl_1000, xl_9999, xg_1, xg_2, xg_3, xg_4, xg_5, xg_6, xg_7, xg_8, xg_9, xg_10, xg_12, xg_20, xg_30, xg_32, xg_40, xg_41, xg_42, xg_48, xg_57, xg_59, xg_64, xg_97, xg_100, xg_122, xg_126, xg_128, xg_1000, xg_9999, xe_1, xe_2, xe_3, xe_4, xe_5, xe_6, xe_7, xe_8, xe_9, xe_10, xe_12, xe_20, xe_30, xe_32, xe_40, xe_41, xe_42, xe_48, xe_57, xe_59, xe_64, xe_97, xe_100, xe_122, xe_126, xe_128, xe_1000, xe_9999, true_implies, false_implies, not_true_eq_false, not_false_eq_true, and_true, true_and, forall_const, imp_self, lc_eq, implies_true, vin, Bool.true_eq_false, Bool.false_eq_true, false_and, and_false, or_false, false_or, or_true, true_or]
      by_cases e1 : n = 1
      · rw [if_pos e1] at F
        refine P2' (by omega) mi ml M ?_
        rw [hl, if_pos e1]; exact F
      · rw [if_neg e1] at F
        exact P2 (by omega) mi ml ⟨M, F, A, fun g h _ _ q => by omega⟩
end LM
