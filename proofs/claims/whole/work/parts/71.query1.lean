/-! Questions: both sides answer alike. -/
def OP (ro : ab_E) (kc km : Nat) (as : List Value) : Prop := ∀ mi ml, Rel mi ml → ∃ r mi1 ml1 mi2 ml2, cS ro 40 kc (.ref 0 :: as) mi ml (some (.int r)) mi1 ml1 ∧ cS ro 40 km (.ref 40 :: as) mi1 ml1 (some (.int r)) mi2 ml2 ∧ Rel mi2 ml2
theorem OPq {ro : ab_E} {kc km : Nat} {as : List Value} (h : ∀ ti tl, okT ti → okM ti tl → ∃ r, (∀ mi ml, rP ti tl mi ml → ∃ mi' ml', cS ro 40 kc (.ref 0 :: as) mi ml (some (.int r)) mi' ml' ∧ rP ti tl mi' ml') ∧ (∀ vi vl mi ml, eqM ti tl vi vl mi ml → ∃ mi' ml', cS ro 40 km (.ref 40 :: as) mi ml (some (.int r)) mi' ml' ∧ eqM ti tl vi vl mi' ml')) : OP ro kc km as := by
  intro mi ml R
  obtain ⟨r, hc, hm⟩ := h mi ml R.1 R.2.1
  obtain ⟨mi1, ml1, s1, R1⟩ := hc mi ml R.r
  obtain ⟨mi2, ml2, s2, E2⟩ := hm mi1 ml1 mi1 ml1 R1.m
  exact ⟨r, mi1, ml1, mi2, ml2, s1, s2, Rel_q R.1 R.2.1 R1 E2⟩
theorem rg {x : Int32} {n : Nat} (hn : n < 2 ^ 31) : (¬ x < 0 ∧ ¬ nI n < x) ↔ ∃ w, w < n + 1 ∧ x = nI w := by
  constructor
  · rintro ⟨h1, h2⟩
    rcases dx x with h | ⟨w, hw, rfl⟩
    · exact absurd h h1
    · rw [nI_ltI hn hw] at h2
      exact ⟨w, by omega, rfl⟩
  · rintro ⟨w, hw, rfl⟩
    rw [xl_0 (by omega), nI_ltI hn (by omega)]
    exact ⟨id, by omega⟩
theorem rg2 {x : Int32} {n : Nat} (hn : n < 2 ^ 31) : (¬ x < 0 ∧ x < nI n) ↔ ∃ w, w < n ∧ x = nI w := by
  constructor
  · rintro ⟨h1, h2⟩
    rcases dx x with h | ⟨w, hw, rfl⟩
    · exact absurd h h1
    · rw [nI_ltI hw hn] at h2
      exact ⟨w, h2, rfl⟩
  · rintro ⟨w, hw, rfl⟩
    rw [xl_0 (by omega), nI_ltI (by omega) hn]
    exact ⟨id, hw⟩
section Q1
variable {ro : ab_E} {d : Nat} {ti mi vi : cM1} {tl ml vl : cM2}
theorem s_within (x a b : Int32) : cS ro (d + 1) 178 [.int x, .int a, .int b] mi ml (some (.int (pI (¬ x < a ∧ ¬ b < x)))) mi ml := by
  refine ab_sem_q rfl rfl (fun Q hQ => vc_X12_within_0 _ _ _ mi ml ⟨fun c => ?_, fun c => ⟨fun c2 => ?_, fun c2 => ?_⟩⟩)
  · rw [pI_0 (fun h => h.1 c)] at hQ; exact hQ
  · rw [pI_0 (fun h => h.2 c2)] at hQ; exact hQ
  · rw [pI_1 ⟨c, c2⟩] at hQ; exact hQ
theorem s_withinN (x : Int32) (n : Nat) (hn : n < 2 ^ 31) : cS ro (d + 1) 178 [.int x, .int 0, .int (nI n)] mi ml (some (.int (pI (∃ w, w < n + 1 ∧ x = nI w)))) mi ml := by
  rw [← pI_iff (rg hn)]; exact s_within x 0 (nI n)
theorem s_isWishC (O : okT ti) (H : eqP ti tl mi ml) (x : Int32) : cS ro (d + 1) 135 [.ref 0, .int x] mi ml (some (.int (pI (∃ w, w < nW ti ∧ x = nI w)))) mi ml := by
  have hW := O.W2
  refine ab_sem_q rfl rfl (fun Q hQ => vc_X11_isWish_0 _ mi ml ?_)
  rw [H.e125, O.W]
  rw [← pI_iff (rg2 (by omega))] at hQ
  refine ⟨fun c => ?_, fun c => ⟨fun c2 => ?_, fun c2 => ?_⟩⟩
  · rw [pI_0 (fun h => h.1 c)] at hQ; exact hQ
  · rw [pI_1 ⟨c, c2⟩] at hQ; exact hQ
  · rw [pI_0 (fun h => c2 h.2)] at hQ; exact hQ
theorem s_isLineC (O : okT ti) (H : eqP ti tl mi ml) (x : Int32) : cS ro (d + 1) 134 [.ref 0, .int x] mi ml (some (.int (pI (∃ w, w < nL ti ∧ x = nI w)))) mi ml := by
  have hL := O.L2
  refine ab_sem_q rfl rfl (fun Q hQ => vc_X11_isLine_0 _ mi ml ?_)
  rw [H.e93, O.L]
  rw [← pI_iff (rg2 (by omega))] at hQ
  refine ⟨fun c => ?_, fun c => ⟨fun c2 => ?_, fun c2 => ?_⟩⟩
  · rw [pI_0 (fun h => h.1 c)] at hQ; exact hQ
  · rw [pI_1 ⟨c, c2⟩] at hQ; exact hQ
  · rw [pI_0 (fun h => c2 h.2)] at hQ; exact hQ
theorem s_isGroupC (O : okT ti) (C : cP ti tl mi ml) (x : Int32) : cS ro (d + 1) 136 [.ref 0, .int x] mi ml (some (.int (pI (∃ w, w < nG ti tl ∧ x = nI w)))) mi ml := by
  have hW := O.W2
  have hG := nG_le ti tl
  refine ab_sem_q rfl rfl (fun Q hQ => vc_X11_isGroup_0 _ mi ml ?_)
  rw [C.2.1.G]
  rw [← pI_iff (rg2 (by omega))] at hQ
  refine ⟨fun c => ?_, fun c => ⟨fun c2 => ?_, fun c2 => ?_⟩⟩
  · rw [pI_0 (fun h => h.1 c)] at hQ; exact hQ
  · rw [pI_1 ⟨c, c2⟩] at hQ; exact hQ
  · rw [pI_0 (fun h => c2 h.2)] at hQ; exact hQ
theorem s_isHouseC (x : Int32) : cS ro (d + 1) 137 [.int x] mi ml (some (.int (pI (∃ w, w < 7 ∧ x = nI w)))) mi ml := by
  refine ab_sem_q rfl rfl (fun Q hQ => vc_X11_isHouse_0 _ mi ml ?_)
  rw [← pI_iff (rg2 (by decide))] at hQ
  refine ⟨fun c => ?_, fun c => ⟨fun c2 => ?_, fun c2 => ?_⟩⟩
  · rw [pI_0 (fun h => h.1 c)] at hQ; exact hQ
  · rw [pI_1 ⟨c, c2⟩] at hQ; exact hQ
  · rw [pI_0 (fun h => c2 h.2)] at hQ; exact hQ
theorem s_misGroup (O : okT ti) (e : mi 40 45 = nI (nG ti tl)) (x : Int32) : cS ro (d + 1) 200 [.ref 40, .int x] mi ml (some (.int (pI (∃ w, w < nG ti tl ∧ x = nI w)))) mi ml := by
  have hW := O.W2
  have hG := nG_le ti tl
  refine ab_sem_q rfl rfl (fun Q hQ => vc_X12_isGroup_0 _ mi ml ?_)
  rw [e]
  rw [← pI_iff (rg2 (by omega))] at hQ
  refine ⟨fun c => ?_, fun c => ⟨fun c2 => ?_, fun c2 => ?_⟩⟩
  · rw [pI_0 (fun h => h.1 c)] at hQ; exact hQ
  · rw [pI_1 ⟨c, c2⟩] at hQ; exact hQ
  · rw [pI_0 (fun h => c2 h.2)] at hQ; exact hQ
theorem eqM.t (H : eqM ti tl vi vl mi ml) (v : Int32) : eqM ti tl vi vl (ab_ui mi 40 0 v) ml := H.ui v rfl (by decide)
theorem bI_01 {Q : Option Value → ab_S → Prop} {b : Bool} {g : ab_S} (h : Q (some (.int (bI b))) g) : ((bI b = 0) → Q (some (.int 0)) g) ∧ (¬ (bI b = 0) → Q (some (.int 1)) g) := by
  cases b with
  | false => exact ⟨fun _ => h, fun q => absurd rfl q⟩
  | true => exact ⟨fun q => (by cases q), fun _ => h⟩
theorem pI_01 {Q : Option Value → ab_S → Prop} {P : Prop} {g : ab_S} (h : Q (some (.int (pI P))) g) : ((pI P = 0) → Q (some (.int 0)) g) ∧ (¬ (pI P = 0) → Q (some (.int 1)) g) := by
  by_cases c : P
  · rw [pI_1 c] at h ⊢
    exact ⟨fun q => (by cases q), fun _ => h⟩
  · rw [pI_0 c] at h ⊢
    exact ⟨fun _ => h, fun q => absurd rfl q⟩
theorem op_allowed (x : Int32) : OP ro 110 192 [.int x] := OPq (fun ti tl O OM => by
  by_cases c : ∃ w, w < 128 ∧ x = nI w
  · obtain ⟨w, hw, rfl⟩ := c
    refine ⟨bI (alw tl (fun p => decide (p < nL ti)) w), fun mi ml R => ?_, fun vi vl mi ml H => ?_⟩
    · obtain ⟨r, s1, h1⟩ := s_wholeT (ro := ro) (d := 38) O R.1
      have s2 := s_allows (ro := ro) (d := 36) (mi := mi) (ml := ml) r hw
      rw [show b6 r = fun p => decide (p < nL ti) from funext h1, R.1.qoA, R.1.qoB] at s2
      refine ab_ex_q rfl rfl (fun Q hQ => vc_X11_allowed_0 _ mi ml ?_)
      simp (disch := omega) only [hw, nI_ltI, nI_eq, nI_clamp, nI_1, xl_0, xg_0, xe_0, xe_m1, nI_0, xl_1, xl_2, xl_3, xl_4, xl_5, xl_6, xl_7, xl_8, xl_9, xl_10, xl_12, xl_20, xl_30, xl_32, xl_40, xl_41, xl_42, xl_48, xl_57, xl_59, xl_64, xl_97, xl_100, xl_122, xl_126, xl_128, xl_1000, xl_9999, xg_1, xg_2, xg_3, xg_4, xg_5, xg_6, xg_7, xg_8, xg_9, xg_10, xg_12, xg_20, xg_30, xg_32, xg_40, xg_41, xg_42, xg_48, xg_57, xg_59, xg_64, xg_97, xg_100, xg_122, xg_126, xg_128, xg_1000, xg_9999, xe_1, xe_2, xe_3, xe_4, xe_5, xe_6, xe_7, xe_8, xe_9, xe_10, xe_12, xe_20, xe_30, xe_32, xe_40, xe_41, xe_42, xe_48, xe_57, xe_59, xe_64, xe_97, xe_100, xe_122, xe_126, xe_128, xe_1000, xe_9999, true_implies, false_implies, not_true_eq_false, not_false_eq_true, and_true, true_and, forall_const, imp_self, lc_eq, implies_true, vin, Bool.true_eq_false, Bool.false_eq_true, false_and, and_false, or_false, false_or, or_true, true_or]
      exact ⟨_, _, _, s1, _, _, _, s2, bI_01 (hQ _ _ (R.op _ _))⟩
    · obtain ⟨mi1, ml1, s1, F, _, a, b, _⟩ := s_buildsLaw (ro := ro) (d := 36) O OM (H.t 0)
      refine ⟨_, _, ab_sem_q rfl rfl (fun Q hQ => vc_X12_allowed_0 _ mi ml ⟨_, _, _, s_withinN _ 127 (by decide), ?_⟩), (H.t 0).fr F⟩
      rw [pI_e0]
      refine ⟨fun q => absurd ⟨w, hw, rfl⟩ q, fun _ => ⟨_, _, s1, ?_⟩⟩
      rw [a, b]
      exact ⟨_, _, _, s_isIn _ _ hw, bI_01 hQ⟩
  · refine ⟨-1, fun mi ml R => ⟨mi, ml, ab_sem_q rfl rfl (fun Q hQ => vc_X11_allowed_0 _ mi ml ⟨fun _ => hQ, fun c1 => ⟨fun c2 => absurd ((rg2 (n := 128) (by decide)).1 ⟨c1, c2⟩) c, fun _ => hQ⟩⟩), R⟩, fun vi vl mi ml H => ⟨_, _, ab_sem_q rfl rfl (fun Q hQ => vc_X12_allowed_0 _ mi ml ⟨_, _, _, s_withinN _ 127 (by decide), ?_⟩), H.t 0⟩⟩
    rw [pI_e0]
    exact ⟨fun _ => hQ, fun q => absurd (Classical.not_not.1 q) c⟩)
theorem op_rule (x : Int32) : OP ro 111 193 [.int x] := OPq (fun ti tl O OM => by
  have hL := O.L2
  have hm : ∀ vi vl mi ml, eqM ti tl vi vl mi ml → ∃ mi' ml', cS ro 39 190 [.ref 40] (ab_ui mi 40 0 0) ml none mi' ml' ∧ eqM ti tl vi vl mi' ml' ∧ ml' 40 40 = oA tl (fun p => decide (p < nL ti)) ∧ ml' 40 41 = oB tl (fun p => decide (p < nL ti)) ∧ mi' 40 42 = cQ tl (fun p => decide (p < nL ti)) ∧ mi' 40 43 = (@ite _ (cQ tl (fun p => decide (p < nL ti)) = 3) (Classical.propDecidable _) (fI (vn tl (fun p => decide (p < nL ti)) (oA tl (fun p => decide (p < nL ti))) (oB tl (fun p => decide (p < nL ti)))) (nL ti)) (-1)) := fun vi vl mi ml H => by
    obtain ⟨mi1, ml1, s1, F, _, a, b, q, l⟩ := s_buildsLaw (ro := ro) (d := 36) O OM (H.t 0)
    exact ⟨mi1, ml1, s1, (H.t 0).fr F, a, b, q, l⟩
  have hc : ∀ mi ml, rP ti tl mi ml → ∃ r, cS ro 39 48 [.ref 9] mi ml (some (.long r)) mi ml ∧ b6 r = fun p => decide (p < nL ti) := fun mi ml R => by
    obtain ⟨r, s1, h1⟩ := s_wholeT (ro := ro) (d := 38) O R.1
    exact ⟨r, s1, funext h1⟩
  by_cases c0 : x = 0
  · subst c0
    refine ⟨nI (nL ti), fun mi ml R => ⟨mi, ml, ab_sem_q rfl rfl (fun Q hQ => vc_X11_rule_0 _ mi ml ⟨fun _ => ?_, fun q => absurd rfl q⟩), R⟩, fun vi vl mi ml H => ?_⟩
    · rw [R.1.e93, O.L]; exact hQ
    · obtain ⟨mi1, ml1, s1, H1, a, b, q, l⟩ := hm vi vl mi ml H
      refine ⟨_, _, ab_sem_q rfl rfl (fun Q hQ => vc_X12_rule_0 _ mi ml ⟨_, _, s1, fun _ => ?_, fun q => absurd rfl q⟩), H1⟩
      rw [H1.s12, OM.s12, O.L]; exact hQ
  · by_cases c1 : x = 1
    · subst c1
      refine ⟨nI (pcn (b6 (oA tl (fun p => decide (p < nL ti)))) 64 + pcn (b6 (oB tl (fun p => decide (p < nL ti)))) 64), fun mi ml R => ?_, fun vi vl mi ml H => ?_⟩
      · obtain ⟨r, s1, h1⟩ := hc mi ml R
        have s2 := s_openWorlds (ro := ro) (d := 36) (mi := mi) (ml := ml) r
        rw [h1, R.1.qoA, R.1.qoB] at s2
        exact ⟨_, _, ab_sem_q rfl rfl (fun Q hQ => vc_X11_rule_0 _ mi ml ⟨fun q => absurd q c0, fun _ => ⟨fun _ => ⟨_, _, _, s1, _, _, _, s2, hQ⟩, fun q => absurd rfl q⟩⟩), R.op _ _⟩
      · obtain ⟨mi1, ml1, s1, H1, a, b, q, l⟩ := hm vi vl mi ml H
        have s2 := s_worlds (ro := ro) (d := 37) (mi := mi1) (ml := ml1)
        rw [a, b] at s2
        exact ⟨_, _, ab_sem_q rfl rfl (fun Q hQ => vc_X12_rule_0 _ mi ml ⟨_, _, s1, fun q => absurd q c0, fun _ => ⟨fun _ => ⟨_, _, _, s2, hQ⟩, fun q => absurd rfl q⟩⟩), H1⟩
    · by_cases c2 : x = 2
      · subst c2
        refine ⟨cQ tl (fun p => decide (p < nL ti)), fun mi ml R => ?_, fun vi vl mi ml H => ?_⟩
        · obtain ⟨r, s1, h1⟩ := hc mi ml R
          have s2 := s_quarrel (ro := ro) (d := 36) (mi := mi) (ml := ml) r
          rw [h1, R.1.qcQ] at s2
          exact ⟨_, _, ab_sem_q rfl rfl (fun Q hQ => vc_X11_rule_0 _ mi ml ⟨fun q => absurd q c0, fun _ => ⟨fun q => absurd q c1, fun _ => ⟨fun _ => ⟨_, _, _, s1, _, _, _, s2, hQ⟩, fun q => absurd rfl q⟩⟩⟩), R.op _ _⟩
        · obtain ⟨mi1, ml1, s1, H1, a, b, q, l⟩ := hm vi vl mi ml H
          refine ⟨_, _, ab_sem_q rfl rfl (fun Q hQ => vc_X12_rule_0 _ mi ml ⟨_, _, s1, fun q => absurd q c0, fun _ => ⟨fun q => absurd q c1, fun _ => ⟨fun _ => ?_, fun q => absurd rfl q⟩⟩⟩), H1⟩
          rw [q]; exact hQ
      · by_cases c3 : x = 3
        · subst c3
          refine ⟨@ite _ (cQ tl (fun p => decide (p < nL ti)) = 3) (Classical.propDecidable _) (fI (vn tl (fun p => decide (p < nL ti)) (oA tl (fun p => decide (p < nL ti))) (oB tl (fun p => decide (p < nL ti)))) (nL ti)) (-1), fun mi ml R => ?_, fun vi vl mi ml H => ?_⟩
          · obtain ⟨r, s1, h1⟩ := hc mi ml R
            have s2 := s_quarrel (ro := ro) (d := 36) (mi := mi) (ml := ml) r
            rw [h1, R.1.qcQ] at s2
            have R2 := R.op (oA ml fun p => decide (p < nL ti)) (oB ml fun p => decide (p < nL ti))
            obtain ⟨r', s1', h1'⟩ := hc _ _ R2
            obtain ⟨v, s3, h3⟩ := s_inVain (ro := ro) (d := 37) (mi := mi) (ml := op ml (oA ml fun p => decide (p < nL ti)) (oB ml fun p => decide (p < nL ti))) r'
            rw [op_94, op_95, op_vn, h1', R.1.qvn, R.1.qoA, R.1.qoB] at h3
            have ev : v = fI (vn tl (fun p => decide (p < nL ti)) (oA tl (fun p => decide (p < nL ti))) (oB tl (fun p => decide (p < nL ti)))) (nL ti) := by
              rcases h3 with ⟨i, i1, i2, i3, rfl⟩ | ⟨i1, rfl⟩
              · have : i < nL ti := by simpa using i2.1
                rw [fI_hit i2 i3 this (by omega)]
              · rw [fI_none (fun j hj => i1 j (by omega))]
            refine ⟨_, _, ab_sem_q rfl rfl (fun Q hQ => vc_X11_rule_0 _ mi ml ⟨fun q => absurd q c0, fun _ => ⟨fun q => absurd q c1, fun _ => ⟨fun q => absurd q c2, fun _ => ⟨fun _ => ⟨_, _, _, s1, _, _, _, s2, fun c4 => ⟨_, _, _, s1', _, _, _, s3, ?_⟩, fun c4 => ?_⟩, fun q => absurd rfl q⟩⟩⟩⟩), R2⟩
            · rw [if_pos c4, ← ev] at hQ; exact hQ
            · rw [if_neg c4] at hQ; exact hQ
          · obtain ⟨mi1, ml1, s1, H1, a, b, q, l⟩ := hm vi vl mi ml H
            refine ⟨_, _, ab_sem_q rfl rfl (fun Q hQ => vc_X12_rule_0 _ mi ml ⟨_, _, s1, fun q => absurd q c0, fun _ => ⟨fun q => absurd q c1, fun _ => ⟨fun q => absurd q c2, fun _ => ⟨fun _ => ?_, fun q => absurd rfl q⟩⟩⟩⟩), H1⟩
            rw [l]; exact hQ
        · refine ⟨-1, fun mi ml R => ⟨mi, ml, ab_sem_q rfl rfl (fun Q hQ => vc_X11_rule_0 _ mi ml ⟨fun q => absurd q c0, fun _ => ⟨fun q => absurd q c1, fun _ => ⟨fun q => absurd q c2, fun _ => ⟨fun q => absurd q c3, fun _ => hQ⟩⟩⟩⟩), R⟩, fun vi vl mi ml H => ?_⟩
          obtain ⟨mi1, ml1, s1, H1, _⟩ := hm vi vl mi ml H
          exact ⟨_, _, ab_sem_q rfl rfl (fun Q hQ => vc_X12_rule_0 _ mi ml ⟨_, _, s1, fun q => absurd q c0, fun _ => ⟨fun q => absurd q c1, fun _ => ⟨fun q => absurd q c2, fun _ => ⟨fun q => absurd q c3, fun _ => hQ⟩⟩⟩⟩), H1⟩)
theorem op_line (x y : Int32) : OP ro 112 194 [.int x, .int y] := OPq (fun ti tl O OM => by
  have hL := O.L2
  by_cases c : (∃ w, w < nL ti ∧ x = nI w)
  · obtain ⟨l, hl, rfl⟩ := c
    have yes : ∃ w, w < nL ti ∧ nI l = nI w := ⟨l, hl, rfl⟩
    have m0 : ∀ mi ml vi vl, eqM ti tl vi vl mi ml → (mi 40 12 = nI (nL ti)) := fun mi ml vi vl H => by rw [H.s12, OM.s12, O.L]
    by_cases c0 : y = 0
    · refine ⟨bI (mB tl l), fun mi ml R => ?_, fun vi vl mi ml H => ?_⟩
      · have s2 := s_isMay (ro := ro) (d := 38) (mi := mi) (ml := ml) (p := l) (by omega)
        rw [R.1.qmB] at s2
        refine ab_ex_q rfl rfl (fun Q hQ => vc_X11_line_0 _ _ mi ml ⟨_, _, _, s_isLineC O R.1 _, ?_⟩)
        rw [pI_1 yes]
        exact ⟨fun q => (by cases q), fun _ => ⟨fun _ => ⟨_, _, _, s2, bI_01 (hQ _ _ R)⟩, fun q => absurd c0 q⟩⟩
      · refine ab_ex_q rfl rfl (fun Q hQ => vc_X12_line_0 _ _ mi ml ?_)
        have H1 := H.t 0
        have q1 := (OM.l l hl).1
        simp (disch := omega) only [m0 mi ml vi vl H, hl, nI_ltI, nI_eq, nI_clamp, nI_1, xl_0, xg_0, xe_0, xe_m1, nI_0, xl_1, xl_2, xl_3, xl_4, xl_5, xl_6, xl_7, xl_8, xl_9, xl_10, xl_12, xl_20, xl_30, xl_32, xl_40, xl_41, xl_42, xl_48, xl_57, xl_59, xl_64, xl_97, xl_100, xl_122, xl_126, xl_128, xl_1000, xl_9999, xg_1, xg_2, xg_3, xg_4, xg_5, xg_6, xg_7, xg_8, xg_9, xg_10, xg_12, xg_20, xg_30, xg_32, xg_40, xg_41, xg_42, xg_48, xg_57, xg_59, xg_64, xg_97, xg_100, xg_122, xg_126, xg_128, xg_1000, xg_9999, xe_1, xe_2, xe_3, xe_4, xe_5, xe_6, xe_7, xe_8, xe_9, xe_10, xe_12, xe_20, xe_30, xe_32, xe_40, xe_41, xe_42, xe_48, xe_57, xe_59, xe_64, xe_97, xe_100, xe_122, xe_126, xe_128, xe_1000, xe_9999, true_implies, false_implies, not_true_eq_false, not_false_eq_true, and_true, true_and, forall_const, imp_self, lc_eq, implies_true, vin, Bool.true_eq_false, Bool.false_eq_true, false_and, and_false, or_false, false_or, or_true, true_or]
        refine ⟨_, _, _, s_withinN _ 1 (by decide), ?_⟩
        rw [pI_1 ⟨0, by decide, c0⟩]
        refine ⟨fun q => (by cases q), fun _ => ⟨fun _ => ?_, fun q => absurd c0 q⟩⟩
        simp (disch := omega) only [H1.e46, q1, bI_0, nI_ltI, nI_eq, nI_clamp, nI_1, xl_0, xg_0, xe_0, xe_m1, nI_0, xl_1, xl_2, xl_3, xl_4, xl_5, xl_6, xl_7, xl_8, xl_9, xl_10, xl_12, xl_20, xl_30, xl_32, xl_40, xl_41, xl_42, xl_48, xl_57, xl_59, xl_64, xl_97, xl_100, xl_122, xl_126, xl_128, xl_1000, xl_9999, xg_1, xg_2, xg_3, xg_4, xg_5, xg_6, xg_7, xg_8, xg_9, xg_10, xg_12, xg_20, xg_30, xg_32, xg_40, xg_41, xg_42, xg_48, xg_57, xg_59, xg_64, xg_97, xg_100, xg_122, xg_126, xg_128, xg_1000, xg_9999, xe_1, xe_2, xe_3, xe_4, xe_5, xe_6, xe_7, xe_8, xe_9, xe_10, xe_12, xe_20, xe_30, xe_32, xe_40, xe_41, xe_42, xe_48, xe_57, xe_59, xe_64, xe_97, xe_100, xe_122, xe_126, xe_128, xe_1000, xe_9999, true_implies, false_implies, not_true_eq_false, not_false_eq_true, and_true, true_and, forall_const, imp_self, lc_eq, implies_true, vin, Bool.true_eq_false, Bool.false_eq_true, false_and, and_false, or_false, false_or, or_true, true_or]
        have fin := hQ _ _ H1
        cases hm : mB tl l with
        | true => rw [hm] at fin; exact ⟨fun _ => fin, fun q => absurd rfl q⟩
        | false => rw [hm] at fin; exact ⟨fun q => (by cases q), fun _ => fin⟩
    · by_cases c1 : y = 1
      · refine ⟨nI (pcn (b6 (tl 10 l)) 64 + pcn (b6 (tl 11 l)) 64), fun mi ml R => ?_, fun vi vl mi ml H => ?_⟩
        · refine ab_ex_q rfl rfl (fun Q hQ => vc_X11_line_0 _ _ mi ml ⟨_, _, _, s_isLineC O R.1 _, ?_⟩)
          rw [pI_1 yes]
          refine ⟨fun q => (by cases q), fun _ => ⟨fun q => absurd q c0, fun _ => ⟨fun _ => ?_, fun q => absurd c1 q⟩⟩⟩
          simp (disch := omega) only [nI_ltI, nI_eq, nI_clamp, nI_1, xl_0, xg_0, xe_0, xe_m1, nI_0, xl_1, xl_2, xl_3, xl_4, xl_5, xl_6, xl_7, xl_8, xl_9, xl_10, xl_12, xl_20, xl_30, xl_32, xl_40, xl_41, xl_42, xl_48, xl_57, xl_59, xl_64, xl_97, xl_100, xl_122, xl_126, xl_128, xl_1000, xl_9999, xg_1, xg_2, xg_3, xg_4, xg_5, xg_6, xg_7, xg_8, xg_9, xg_10, xg_12, xg_20, xg_30, xg_32, xg_40, xg_41, xg_42, xg_48, xg_57, xg_59, xg_64, xg_97, xg_100, xg_122, xg_126, xg_128, xg_1000, xg_9999, xe_1, xe_2, xe_3, xe_4, xe_5, xe_6, xe_7, xe_8, xe_9, xe_10, xe_12, xe_20, xe_30, xe_32, xe_40, xe_41, xe_42, xe_48, xe_57, xe_59, xe_64, xe_97, xe_100, xe_122, xe_126, xe_128, xe_1000, xe_9999, true_implies, false_implies, not_true_eq_false, not_false_eq_true, and_true, true_and, forall_const, imp_self, lc_eq, implies_true, vin, Bool.true_eq_false, Bool.false_eq_true, false_and, and_false, or_false, false_or, or_true, true_or]
          rw [R.1.f10]
          refine ⟨_, _, _, s_bc6 _, ?_⟩
          rw [R.1.f11]
          refine ⟨_, _, _, s_bc6 _, ?_⟩
          rw [nI_add]
          exact hQ _ _ R
        · refine ab_ex_q rfl rfl (fun Q hQ => vc_X12_line_0 _ _ mi ml ?_)
          have H1 := H.t 0
          obtain ⟨_, q2, q3⟩ := OM.l l hl
          simp (disch := omega) only [m0 mi ml vi vl H, hl, nI_ltI, nI_eq, nI_clamp, nI_1, xl_0, xg_0, xe_0, xe_m1, nI_0, xl_1, xl_2, xl_3, xl_4, xl_5, xl_6, xl_7, xl_8, xl_9, xl_10, xl_12, xl_20, xl_30, xl_32, xl_40, xl_41, xl_42, xl_48, xl_57, xl_59, xl_64, xl_97, xl_100, xl_122, xl_126, xl_128, xl_1000, xl_9999, xg_1, xg_2, xg_3, xg_4, xg_5, xg_6, xg_7, xg_8, xg_9, xg_10, xg_12, xg_20, xg_30, xg_32, xg_40, xg_41, xg_42, xg_48, xg_57, xg_59, xg_64, xg_97, xg_100, xg_122, xg_126, xg_128, xg_1000, xg_9999, xe_1, xe_2, xe_3, xe_4, xe_5, xe_6, xe_7, xe_8, xe_9, xe_10, xe_12, xe_20, xe_30, xe_32, xe_40, xe_41, xe_42, xe_48, xe_57, xe_59, xe_64, xe_97, xe_100, xe_122, xe_126, xe_128, xe_1000, xe_9999, true_implies, false_implies, not_true_eq_false, not_false_eq_true, and_true, true_and, forall_const, imp_self, lc_eq, implies_true, vin, Bool.true_eq_false, Bool.false_eq_true, false_and, and_false, or_false, false_or, or_true, true_or]
          refine ⟨_, _, _, s_withinN _ 1 (by decide), ?_⟩
          rw [pI_1 ⟨1, by decide, c1⟩]
          refine ⟨fun q => (by cases q), fun _ => ⟨fun q => absurd q c0, fun _ => ?_⟩⟩
          rw [← pcn_wB] at hQ
          refine up0 (n := 128) (F := fun i => W_X12_line_52 (cs ro 39) ro Q (nI l) y (nI (pcn (wB (tl 10 l) (tl 11 l)) i)) (nI i) (ab_ui mi 40 0 0) ml) (fun i hi ih => ?_) ?_
          · refine vc_X12_line_52 _ _ _ _ _ ml ?_
            simp (disch := omega) only [hi, Int32.add_zero, H1.f47, H1.f48, q2, q3, nI_ltI, nI_eq, nI_clamp, nI_1, xl_0, xg_0, xe_0, xe_m1, nI_0, xl_1, xl_2, xl_3, xl_4, xl_5, xl_6, xl_7, xl_8, xl_9, xl_10, xl_12, xl_20, xl_30, xl_32, xl_40, xl_41, xl_42, xl_48, xl_57, xl_59, xl_64, xl_97, xl_100, xl_122, xl_126, xl_128, xl_1000, xl_9999, xg_1, xg_2, xg_3, xg_4, xg_5, xg_6, xg_7, xg_8, xg_9, xg_10, xg_12, xg_20, xg_30, xg_32, xg_40, xg_41, xg_42, xg_48, xg_57, xg_59, xg_64, xg_97, xg_100, xg_122, xg_126, xg_128, xg_1000, xg_9999, xe_1, xe_2, xe_3, xe_4, xe_5, xe_6, xe_7, xe_8, xe_9, xe_10, xe_12, xe_20, xe_30, xe_32, xe_40, xe_41, xe_42, xe_48, xe_57, xe_59, xe_64, xe_97, xe_100, xe_122, xe_126, xe_128, xe_1000, xe_9999, true_implies, false_implies, not_true_eq_false, not_false_eq_true, and_true, true_and, forall_const, imp_self, lc_eq, implies_true, vin, Bool.true_eq_false, Bool.false_eq_true, false_and, and_false, or_false, false_or, or_true, true_or]
            refine ⟨_, _, _, s_isIn _ _ hi, ?_⟩
            rw [bI_0]
            refine ⟨fun c => ?_, fun c => ?_⟩
            · rw [pcn_s0 c]; exact ih
            · rw [pcn_s1 (f := wB (tl 10 l) (tl 11 l)) (by simpa using c)]; exact ih
          · refine vc_X12_line_52 _ _ _ _ _ ml ?_
            simp (disch := omega) only [Nat.lt_irrefl, nI_ltI, nI_eq, nI_clamp, nI_1, xl_0, xg_0, xe_0, xe_m1, nI_0, xl_1, xl_2, xl_3, xl_4, xl_5, xl_6, xl_7, xl_8, xl_9, xl_10, xl_12, xl_20, xl_30, xl_32, xl_40, xl_41, xl_42, xl_48, xl_57, xl_59, xl_64, xl_97, xl_100, xl_122, xl_126, xl_128, xl_1000, xl_9999, xg_1, xg_2, xg_3, xg_4, xg_5, xg_6, xg_7, xg_8, xg_9, xg_10, xg_12, xg_20, xg_30, xg_32, xg_40, xg_41, xg_42, xg_48, xg_57, xg_59, xg_64, xg_97, xg_100, xg_122, xg_126, xg_128, xg_1000, xg_9999, xe_1, xe_2, xe_3, xe_4, xe_5, xe_6, xe_7, xe_8, xe_9, xe_10, xe_12, xe_20, xe_30, xe_32, xe_40, xe_41, xe_42, xe_48, xe_57, xe_59, xe_64, xe_97, xe_100, xe_122, xe_126, xe_128, xe_1000, xe_9999, true_implies, false_implies, not_true_eq_false, not_false_eq_true, and_true, true_and, forall_const, imp_self, lc_eq, implies_true, vin, Bool.true_eq_false, Bool.false_eq_true, false_and, and_false, or_false, false_or, or_true, true_or]
            exact hQ _ _ H1
      · refine ⟨-1, fun mi ml R => ?_, fun vi vl mi ml H => ?_⟩
        · refine ab_ex_q rfl rfl (fun Q hQ => vc_X11_line_0 _ _ mi ml ⟨_, _, _, s_isLineC O R.1 _, ?_⟩)
          rw [pI_1 yes]
          exact ⟨fun q => (by cases q), fun _ => ⟨fun q => absurd q c0, fun _ => ⟨fun q => absurd q c1, fun _ => hQ _ _ R⟩⟩⟩
        · refine ab_ex_q rfl rfl (fun Q hQ => vc_X12_line_0 _ _ mi ml ?_)
          simp (disch := omega) only [m0 mi ml vi vl H, hl, nI_ltI, nI_eq, nI_clamp, nI_1, xl_0, xg_0, xe_0, xe_m1, nI_0, xl_1, xl_2, xl_3, xl_4, xl_5, xl_6, xl_7, xl_8, xl_9, xl_10, xl_12, xl_20, xl_30, xl_32, xl_40, xl_41, xl_42, xl_48, xl_57, xl_59, xl_64, xl_97, xl_100, xl_122, xl_126, xl_128, xl_1000, xl_9999, xg_1, xg_2, xg_3, xg_4, xg_5, xg_6, xg_7, xg_8, xg_9, xg_10, xg_12, xg_20, xg_30, xg_32, xg_40, xg_41, xg_42, xg_48, xg_57, xg_59, xg_64, xg_97, xg_100, xg_122, xg_126, xg_128, xg_1000, xg_9999, xe_1, xe_2, xe_3, xe_4, xe_5, xe_6, xe_7, xe_8, xe_9, xe_10, xe_12, xe_20, xe_30, xe_32, xe_40, xe_41, xe_42, xe_48, xe_57, xe_59, xe_64, xe_97, xe_100, xe_122, xe_126, xe_128, xe_1000, xe_9999, true_implies, false_implies, not_true_eq_false, not_false_eq_true, and_true, true_and, forall_const, imp_self, lc_eq, implies_true, vin, Bool.true_eq_false, Bool.false_eq_true, false_and, and_false, or_false, false_or, or_true, true_or]
          refine ⟨_, _, _, s_withinN _ 1 (by decide), ?_⟩
          rw [pI_0]
          · exact ⟨fun _ => hQ _ _ (H.t 0), fun q => absurd rfl q⟩
          · rintro ⟨w, hw, e⟩
            match w, hw with
            | 0, _ => exact c0 e
            | 1, _ => exact c1 e
  · refine ⟨-1, fun mi ml R => ?_, fun vi vl mi ml H => ?_⟩
    · refine ab_ex_q rfl rfl (fun Q hQ => vc_X11_line_0 _ _ mi ml ⟨_, _, _, s_isLineC O R.1 _, ?_⟩)
      rw [pI_0 c]
      exact ⟨fun _ => hQ _ _ R, fun q => absurd rfl q⟩
    · refine ab_ex_q rfl rfl (fun Q hQ => vc_X12_line_0 _ _ mi ml ?_)
      rw [H.s12, OM.s12, O.L]
      exact ⟨fun _ => hQ _ _ (H.t 0), fun c1 => ⟨fun c2 => absurd ((rg2 (by omega)).1 ⟨c1, c2⟩) c, fun _ => hQ _ _ (H.t 0)⟩⟩)
theorem no4 {y : Int32} {n : Nat} (h : ¬ ∃ w, w < n + 1 ∧ y = nI w) {k : Nat} (hk : k ≤ n) : ¬ y = nI k := fun e => h ⟨k, by omega, e⟩
theorem op_look (x y : Int32) : OP ro 113 199 [.int x, .int y] := OPq (fun ti tl O OM => by
  have hW := O.W2
  by_cases c : (∃ w, w < nW ti ∧ x = nI w)
  · obtain ⟨w, hw, rfl⟩ := c
    have yes : ∃ v, v < nW ti ∧ nI w = nI v := ⟨w, hw, rfl⟩
    by_cases cy : ∃ k, k < 4 ∧ y = nI k
    · have hm : ∀ vi vl mi ml, eqM ti tl vi vl mi ml → ∃ mi' ml', (∀ (Q : Option Value → ab_S → Prop), (y = 0 → Q (some (.int (mi' 68 w))) (ab_G mi' ml')) → (¬ y = 0 → y = 1 → Q (some (.int (mi' 52 w))) (ab_G mi' ml')) → (¬ y = 0 → ¬ y = 1 → y = 2 → Q (some (.int (mi' 53 w))) (ab_G mi' ml')) → (¬ y = 0 → ¬ y = 1 → ¬ y = 2 → Q (some (.int (mi' 57 w))) (ab_G mi' ml')) → W_X12_look_0 (cs ro 39) ro Q (nI w) y mi ml) ∧ mP ti tl vi vl mi' ml' := fun vi vl mi ml H => by
        obtain ⟨mi1, ml1, s1, _, M1⟩ := s_findGroups (ro := ro) (d := 35) O OM (H.t 0)
        refine ⟨mi1, ml1, fun Q q0 q1 q2 q3 => ?_, M1⟩
        refine vc_X12_look_0 _ _ mi ml ⟨_, _, _, s_misWish O OM (H.t 0) _, ?_⟩
        rw [pI_1 yes]
        refine ⟨fun q => (by cases q), fun _ => ⟨_, _, _, s_withinN _ 3 (by decide), ?_⟩⟩
        rw [pI_1 cy]
        refine ⟨fun q => (by cases q), fun _ => ⟨_, _, s1, ?_⟩⟩
        simp (disch := omega) only [nI_ltI, nI_eq, nI_clamp, nI_1, xl_0, xg_0, xe_0, xe_m1, nI_0, xl_1, xl_2, xl_3, xl_4, xl_5, xl_6, xl_7, xl_8, xl_9, xl_10, xl_12, xl_20, xl_30, xl_32, xl_40, xl_41, xl_42, xl_48, xl_57, xl_59, xl_64, xl_97, xl_100, xl_122, xl_126, xl_128, xl_1000, xl_9999, xg_1, xg_2, xg_3, xg_4, xg_5, xg_6, xg_7, xg_8, xg_9, xg_10, xg_12, xg_20, xg_30, xg_32, xg_40, xg_41, xg_42, xg_48, xg_57, xg_59, xg_64, xg_97, xg_100, xg_122, xg_126, xg_128, xg_1000, xg_9999, xe_1, xe_2, xe_3, xe_4, xe_5, xe_6, xe_7, xe_8, xe_9, xe_10, xe_12, xe_20, xe_30, xe_32, xe_40, xe_41, xe_42, xe_48, xe_57, xe_59, xe_64, xe_97, xe_100, xe_122, xe_126, xe_128, xe_1000, xe_9999, true_implies, false_implies, not_true_eq_false, not_false_eq_true, and_true, true_and, forall_const, imp_self, lc_eq, implies_true, vin, Bool.true_eq_false, Bool.false_eq_true, false_and, and_false, or_false, false_or, or_true, true_or]
        exact ⟨q0, fun a => ⟨q1 a, fun b => ⟨q2 a b, q3 a b⟩⟩⟩
      by_cases c0 : y = 0
      · subst c0
        refine ⟨ofG ti tl w, fun mi ml R => ?_, fun vi vl mi ml H => ?_⟩
        · obtain ⟨mi1, ml1, s1, C1⟩ := s_settle (ro := ro) (d := 32) O R.1 R.2
          refine ab_ex_q rfl rfl (fun Q hQ => vc_X11_look_0 _ _ mi ml ⟨_, _, _, s_isWishC O R.1 _, ?_⟩)
          rw [pI_1 yes]
          refine ⟨fun q => (by cases q), fun _ => ⟨fun _ => ⟨_, _, s1, ?_⟩, fun q => absurd rfl q⟩⟩
          simp (disch := omega) only [C1.2.1.2.1 w hw, nI_ltI, nI_eq, nI_clamp, nI_1, xl_0, xg_0, xe_0, xe_m1, nI_0, xl_1, xl_2, xl_3, xl_4, xl_5, xl_6, xl_7, xl_8, xl_9, xl_10, xl_12, xl_20, xl_30, xl_32, xl_40, xl_41, xl_42, xl_48, xl_57, xl_59, xl_64, xl_97, xl_100, xl_122, xl_126, xl_128, xl_1000, xl_9999, xg_1, xg_2, xg_3, xg_4, xg_5, xg_6, xg_7, xg_8, xg_9, xg_10, xg_12, xg_20, xg_30, xg_32, xg_40, xg_41, xg_42, xg_48, xg_57, xg_59, xg_64, xg_97, xg_100, xg_122, xg_126, xg_128, xg_1000, xg_9999, xe_1, xe_2, xe_3, xe_4, xe_5, xe_6, xe_7, xe_8, xe_9, xe_10, xe_12, xe_20, xe_30, xe_32, xe_40, xe_41, xe_42, xe_48, xe_57, xe_59, xe_64, xe_97, xe_100, xe_122, xe_126, xe_128, xe_1000, xe_9999, true_implies, false_implies, not_true_eq_false, not_false_eq_true, and_true, true_and, forall_const, imp_self, lc_eq, implies_true, vin, Bool.true_eq_false, Bool.false_eq_true, false_and, and_false, or_false, false_or, or_true, true_or]
          exact hQ _ _ C1.r
        · obtain ⟨mi1, ml1, hW0, M1⟩ := hm vi vl mi ml H
          refine ⟨mi1, ml1, ab_sem_q rfl rfl (fun Q hQ => hW0 Q (fun _ => ?_) (fun q => absurd rfl q) (fun q => absurd rfl q) (fun q => absurd rfl q)), M1.1⟩
          rw [M1.2.2.1 w hw]; exact hQ
      · by_cases c1 : y = 1
        · subst c1
          refine ⟨ti 13 w, fun mi ml R => ?_, fun vi vl mi ml H => ?_⟩
          · refine ab_ex_q rfl rfl (fun Q hQ => vc_X11_look_0 _ _ mi ml ⟨_, _, _, s_isWishC O R.1 _, ?_⟩)
            rw [pI_1 yes]
            refine ⟨fun q => (by cases q), fun _ => ⟨fun q => absurd q c0, fun _ => ⟨fun _ => ?_, fun q => absurd rfl q⟩⟩⟩
            simp (disch := omega) only [R.1.e13, nI_ltI, nI_eq, nI_clamp, nI_1, xl_0, xg_0, xe_0, xe_m1, nI_0, xl_1, xl_2, xl_3, xl_4, xl_5, xl_6, xl_7, xl_8, xl_9, xl_10, xl_12, xl_20, xl_30, xl_32, xl_40, xl_41, xl_42, xl_48, xl_57, xl_59, xl_64, xl_97, xl_100, xl_122, xl_126, xl_128, xl_1000, xl_9999, xg_1, xg_2, xg_3, xg_4, xg_5, xg_6, xg_7, xg_8, xg_9, xg_10, xg_12, xg_20, xg_30, xg_32, xg_40, xg_41, xg_42, xg_48, xg_57, xg_59, xg_64, xg_97, xg_100, xg_122, xg_126, xg_128, xg_1000, xg_9999, xe_1, xe_2, xe_3, xe_4, xe_5, xe_6, xe_7, xe_8, xe_9, xe_10, xe_12, xe_20, xe_30, xe_32, xe_40, xe_41, xe_42, xe_48, xe_57, xe_59, xe_64, xe_97, xe_100, xe_122, xe_126, xe_128, xe_1000, xe_9999, true_implies, false_implies, not_true_eq_false, not_false_eq_true, and_true, true_and, forall_const, imp_self, lc_eq, implies_true, vin, Bool.true_eq_false, Bool.false_eq_true, false_and, and_false, or_false, false_or, or_true, true_or]
            exact hQ _ _ R
          · obtain ⟨mi1, ml1, hW0, M1⟩ := hm vi vl mi ml H
            refine ⟨mi1, ml1, ab_sem_q rfl rfl (fun Q hQ => hW0 Q (fun q => absurd q c0) (fun _ _ => ?_) (fun _ q => absurd rfl q) (fun _ q => absurd rfl q)), M1.1⟩
            rw [M1.1.e52, (OM.w w hw).1]; exact hQ
        · by_cases c2 : y = 2
          · subst c2
            refine ⟨ti 14 w, fun mi ml R => ?_, fun vi vl mi ml H => ?_⟩
            · refine ab_ex_q rfl rfl (fun Q hQ => vc_X11_look_0 _ _ mi ml ⟨_, _, _, s_isWishC O R.1 _, ?_⟩)
              rw [pI_1 yes]
              refine ⟨fun q => (by cases q), fun _ => ⟨fun q => absurd q c0, fun _ => ⟨fun q => absurd q c1, fun _ => ⟨fun _ => ?_, fun q => absurd rfl q⟩⟩⟩⟩
              simp (disch := omega) only [R.1.e14, nI_ltI, nI_eq, nI_clamp, nI_1, xl_0, xg_0, xe_0, xe_m1, nI_0, xl_1, xl_2, xl_3, xl_4, xl_5, xl_6, xl_7, xl_8, xl_9, xl_10, xl_12, xl_20, xl_30, xl_32, xl_40, xl_41, xl_42, xl_48, xl_57, xl_59, xl_64, xl_97, xl_100, xl_122, xl_126, xl_128, xl_1000, xl_9999, xg_1, xg_2, xg_3, xg_4, xg_5, xg_6, xg_7, xg_8, xg_9, xg_10, xg_12, xg_20, xg_30, xg_32, xg_40, xg_41, xg_42, xg_48, xg_57, xg_59, xg_64, xg_97, xg_100, xg_122, xg_126, xg_128, xg_1000, xg_9999, xe_1, xe_2, xe_3, xe_4, xe_5, xe_6, xe_7, xe_8, xe_9, xe_10, xe_12, xe_20, xe_30, xe_32, xe_40, xe_41, xe_42, xe_48, xe_57, xe_59, xe_64, xe_97, xe_100, xe_122, xe_126, xe_128, xe_1000, xe_9999, true_implies, false_implies, not_true_eq_false, not_false_eq_true, and_true, true_and, forall_const, imp_self, lc_eq, implies_true, vin, Bool.true_eq_false, Bool.false_eq_true, false_and, and_false, or_false, false_or, or_true, true_or]
              exact hQ _ _ R
            · obtain ⟨mi1, ml1, hW0, M1⟩ := hm vi vl mi ml H
              refine ⟨mi1, ml1, ab_sem_q rfl rfl (fun Q hQ => hW0 Q (fun q => absurd q c0) (fun _ q => absurd q c1) (fun _ _ _ => ?_) (fun _ _ q => absurd rfl q)), M1.1⟩
              rw [M1.1.e53, (OM.w w hw).2.1]; exact hQ
          · have c3 : y = 3 := by
              obtain ⟨k, hk, e⟩ := cy
              match k, hk with
              | 0, _ => exact absurd e c0
              | 1, _ => exact absurd e c1
              | 2, _ => exact absurd e c2
              | 3, _ => exact e
            subst c3
            refine ⟨ti 15 w, fun mi ml R => ?_, fun vi vl mi ml H => ?_⟩
            · refine ab_ex_q rfl rfl (fun Q hQ => vc_X11_look_0 _ _ mi ml ⟨_, _, _, s_isWishC O R.1 _, ?_⟩)
              rw [pI_1 yes]
              refine ⟨fun q => (by cases q), fun _ => ⟨fun q => absurd q c0, fun _ => ⟨fun q => absurd q c1, fun _ => ⟨fun q => absurd q c2, fun _ => ⟨fun _ => ?_, fun q => absurd rfl q⟩⟩⟩⟩⟩
              simp (disch := omega) only [R.1.e15, nI_ltI, nI_eq, nI_clamp, nI_1, xl_0, xg_0, xe_0, xe_m1, nI_0, xl_1, xl_2, xl_3, xl_4, xl_5, xl_6, xl_7, xl_8, xl_9, xl_10, xl_12, xl_20, xl_30, xl_32, xl_40, xl_41, xl_42, xl_48, xl_57, xl_59, xl_64, xl_97, xl_100, xl_122, xl_126, xl_128, xl_1000, xl_9999, xg_1, xg_2, xg_3, xg_4, xg_5, xg_6, xg_7, xg_8, xg_9, xg_10, xg_12, xg_20, xg_30, xg_32, xg_40, xg_41, xg_42, xg_48, xg_57, xg_59, xg_64, xg_97, xg_100, xg_122, xg_126, xg_128, xg_1000, xg_9999, xe_1, xe_2, xe_3, xe_4, xe_5, xe_6, xe_7, xe_8, xe_9, xe_10, xe_12, xe_20, xe_30, xe_32, xe_40, xe_41, xe_42, xe_48, xe_57, xe_59, xe_64, xe_97, xe_100, xe_122, xe_126, xe_128, xe_1000, xe_9999, true_implies, false_implies, not_true_eq_false, not_false_eq_true, and_true, true_and, forall_const, imp_self, lc_eq, implies_true, vin, Bool.true_eq_false, Bool.false_eq_true, false_and, and_false, or_false, false_or, or_true, true_or]
              exact hQ _ _ R
            · obtain ⟨mi1, ml1, hW0, M1⟩ := hm vi vl mi ml H
              refine ⟨mi1, ml1, ab_sem_q rfl rfl (fun Q hQ => hW0 Q (fun q => absurd q c0) (fun _ q => absurd q c1) (fun _ _ q => absurd q c2) (fun _ _ _ => ?_)), M1.1⟩
              rw [M1.1.e57, (OM.w w hw).2.2.1]; exact hQ
    · refine ⟨-1, fun mi ml R => ?_, fun vi vl mi ml H => ?_⟩
      · refine ab_ex_q rfl rfl (fun Q hQ => vc_X11_look_0 _ _ mi ml ⟨_, _, _, s_isWishC O R.1 _, ?_⟩)
        rw [pI_1 yes]
        exact ⟨fun q => (by cases q), fun _ => ⟨fun q => absurd q (no4 cy (k := 0) (by decide)), fun _ => ⟨fun q => absurd q (no4 cy (k := 1) (by decide)), fun _ => ⟨fun q => absurd q (no4 cy (k := 2) (by decide)), fun _ => ⟨fun q => absurd q (no4 cy (k := 3) (by decide)), fun _ => hQ _ _ R⟩⟩⟩⟩⟩
      · refine ab_ex_q rfl rfl (fun Q hQ => vc_X12_look_0 _ _ mi ml ⟨_, _, _, s_misWish O OM (H.t 0) _, ?_⟩)
        rw [pI_1 yes]
        refine ⟨fun q => (by cases q), fun _ => ⟨_, _, _, s_withinN _ 3 (by decide), ?_⟩⟩
        rw [pI_0 cy]
        exact ⟨fun _ => hQ _ _ (H.t 0), fun q => absurd rfl q⟩
  · refine ⟨-1, fun mi ml R => ?_, fun vi vl mi ml H => ?_⟩
    · refine ab_ex_q rfl rfl (fun Q hQ => vc_X11_look_0 _ _ mi ml ⟨_, _, _, s_isWishC O R.1 _, ?_⟩)
      rw [pI_0 c]
      exact ⟨fun _ => hQ _ _ R, fun q => absurd rfl q⟩
    · refine ab_ex_q rfl rfl (fun Q hQ => vc_X12_look_0 _ _ mi ml ⟨_, _, _, s_misWish O OM (H.t 0) _, ?_⟩)
      rw [pI_0 c]
      exact ⟨fun _ => hQ _ _ (H.t 0), fun q => absurd rfl q⟩)
theorem op_held (x y : Int32) : OP ro 115 175 [.int x, .int y] := OPq (fun ti tl O OM => by
  have hR := O.R2
  by_cases c : (∃ w, w < nR ti ∧ x = nI w)
  · obtain ⟨g, hg, rfl⟩ := c
    have hm : ∀ vi vl mi ml, eqM ti tl vi vl mi ml → mi 40 30 = nI (nR ti) := fun vi vl mi ml H => by rw [H.s30, OM.s30, O.R]
    by_cases c0 : y = 0
    · refine ⟨pI (hoP ti tl g), fun mi ml R => ?_, fun vi vl mi ml H => ?_⟩
      · have e : cSeen mi = cSeen ti := R.1.qcSeen
        refine ab_ex_q rfl rfl (fun Q hQ => vc_X11_held_0 _ _ mi ml ?_)
        rw [R.1.e186, O.R]
        simp (disch := omega) only [hg, nI_ltI, nI_eq, nI_clamp, nI_1, xl_0, xg_0, xe_0, xe_m1, nI_0, xl_1, xl_2, xl_3, xl_4, xl_5, xl_6, xl_7, xl_8, xl_9, xl_10, xl_12, xl_20, xl_30, xl_32, xl_40, xl_41, xl_42, xl_48, xl_57, xl_59, xl_64, xl_97, xl_100, xl_122, xl_126, xl_128, xl_1000, xl_9999, xg_1, xg_2, xg_3, xg_4, xg_5, xg_6, xg_7, xg_8, xg_9, xg_10, xg_12, xg_20, xg_30, xg_32, xg_40, xg_41, xg_42, xg_48, xg_57, xg_59, xg_64, xg_97, xg_100, xg_122, xg_126, xg_128, xg_1000, xg_9999, xe_1, xe_2, xe_3, xe_4, xe_5, xe_6, xe_7, xe_8, xe_9, xe_10, xe_12, xe_20, xe_30, xe_32, xe_40, xe_41, xe_42, xe_48, xe_57, xe_59, xe_64, xe_97, xe_100, xe_122, xe_126, xe_128, xe_1000, xe_9999, true_implies, false_implies, not_true_eq_false, not_false_eq_true, and_true, true_and, forall_const, imp_self, lc_eq, implies_true, vin, Bool.true_eq_false, Bool.false_eq_true, false_and, and_false, or_false, false_or, or_true, true_or]
        exact ⟨fun _ => ⟨_, _, _, e ▸ s_seen, _, _, _, s_holds O R.1 hg, pI_01 (hQ _ _ R)⟩, fun q => absurd c0 q⟩
      · refine ab_ex_q rfl rfl (fun Q hQ => vc_X12_held_0 _ _ mi ml ?_)
        simp (disch := omega) only [hm vi vl mi ml H, hg, nI_ltI, nI_eq, nI_clamp, nI_1, xl_0, xg_0, xe_0, xe_m1, nI_0, xl_1, xl_2, xl_3, xl_4, xl_5, xl_6, xl_7, xl_8, xl_9, xl_10, xl_12, xl_20, xl_30, xl_32, xl_40, xl_41, xl_42, xl_48, xl_57, xl_59, xl_64, xl_97, xl_100, xl_122, xl_126, xl_128, xl_1000, xl_9999, xg_1, xg_2, xg_3, xg_4, xg_5, xg_6, xg_7, xg_8, xg_9, xg_10, xg_12, xg_20, xg_30, xg_32, xg_40, xg_41, xg_42, xg_48, xg_57, xg_59, xg_64, xg_97, xg_100, xg_122, xg_126, xg_128, xg_1000, xg_9999, xe_1, xe_2, xe_3, xe_4, xe_5, xe_6, xe_7, xe_8, xe_9, xe_10, xe_12, xe_20, xe_30, xe_32, xe_40, xe_41, xe_42, xe_48, xe_57, xe_59, xe_64, xe_97, xe_100, xe_122, xe_126, xe_128, xe_1000, xe_9999, true_implies, false_implies, not_true_eq_false, not_false_eq_true, and_true, true_and, forall_const, imp_self, lc_eq, implies_true, vin, Bool.true_eq_false, Bool.false_eq_true, false_and, and_false, or_false, false_or, or_true, true_or]
        refine ⟨_, _, _, s_withinN _ 2 (by decide), ?_⟩
        rw [pI_1 ⟨0, by decide, c0⟩]
        exact ⟨fun q => (by cases q), fun _ => ⟨fun _ => ⟨_, _, _, s_isHeld O OM (H.t 0) hg, pI_01 (hQ _ _ (H.t 0))⟩, fun q => absurd c0 q⟩⟩
    · by_cases c1 : y = 1
      · refine ⟨fI (agP ti tl g) (nC ti), fun mi ml R => ?_, fun vi vl mi ml H => ?_⟩
        · have e : cSeen mi = cSeen ti := R.1.qcSeen
          refine ab_ex_q rfl rfl (fun Q hQ => vc_X11_held_0 _ _ mi ml ?_)
          rw [R.1.e186, O.R]
          simp (disch := omega) only [hg, nI_ltI, nI_eq, nI_clamp, nI_1, xl_0, xg_0, xe_0, xe_m1, nI_0, xl_1, xl_2, xl_3, xl_4, xl_5, xl_6, xl_7, xl_8, xl_9, xl_10, xl_12, xl_20, xl_30, xl_32, xl_40, xl_41, xl_42, xl_48, xl_57, xl_59, xl_64, xl_97, xl_100, xl_122, xl_126, xl_128, xl_1000, xl_9999, xg_1, xg_2, xg_3, xg_4, xg_5, xg_6, xg_7, xg_8, xg_9, xg_10, xg_12, xg_20, xg_30, xg_32, xg_40, xg_41, xg_42, xg_48, xg_57, xg_59, xg_64, xg_97, xg_100, xg_122, xg_126, xg_128, xg_1000, xg_9999, xe_1, xe_2, xe_3, xe_4, xe_5, xe_6, xe_7, xe_8, xe_9, xe_10, xe_12, xe_20, xe_30, xe_32, xe_40, xe_41, xe_42, xe_48, xe_57, xe_59, xe_64, xe_97, xe_100, xe_122, xe_126, xe_128, xe_1000, xe_9999, true_implies, false_implies, not_true_eq_false, not_false_eq_true, and_true, true_and, forall_const, imp_self, lc_eq, implies_true, vin, Bool.true_eq_false, Bool.false_eq_true, false_and, and_false, or_false, false_or, or_true, true_or]
          exact ⟨fun q => absurd q c0, fun _ => ⟨fun _ => ⟨_, _, _, e ▸ s_seen, _, _, _, s_firstAgainst O R.1 hg, hQ _ _ R⟩, fun q => absurd c1 q⟩⟩
        · refine ab_ex_q rfl rfl (fun Q hQ => vc_X12_held_0 _ _ mi ml ?_)
          simp (disch := omega) only [hm vi vl mi ml H, hg, nI_ltI, nI_eq, nI_clamp, nI_1, xl_0, xg_0, xe_0, xe_m1, nI_0, xl_1, xl_2, xl_3, xl_4, xl_5, xl_6, xl_7, xl_8, xl_9, xl_10, xl_12, xl_20, xl_30, xl_32, xl_40, xl_41, xl_42, xl_48, xl_57, xl_59, xl_64, xl_97, xl_100, xl_122, xl_126, xl_128, xl_1000, xl_9999, xg_1, xg_2, xg_3, xg_4, xg_5, xg_6, xg_7, xg_8, xg_9, xg_10, xg_12, xg_20, xg_30, xg_32, xg_40, xg_41, xg_42, xg_48, xg_57, xg_59, xg_64, xg_97, xg_100, xg_122, xg_126, xg_128, xg_1000, xg_9999, xe_1, xe_2, xe_3, xe_4, xe_5, xe_6, xe_7, xe_8, xe_9, xe_10, xe_12, xe_20, xe_30, xe_32, xe_40, xe_41, xe_42, xe_48, xe_57, xe_59, xe_64, xe_97, xe_100, xe_122, xe_126, xe_128, xe_1000, xe_9999, true_implies, false_implies, not_true_eq_false, not_false_eq_true, and_true, true_and, forall_const, imp_self, lc_eq, implies_true, vin, Bool.true_eq_false, Bool.false_eq_true, false_and, and_false, or_false, false_or, or_true, true_or]
          refine ⟨_, _, _, s_withinN _ 2 (by decide), ?_⟩
          rw [pI_1 ⟨1, by decide, c1⟩]
          exact ⟨fun q => (by cases q), fun _ => ⟨fun q => absurd q c0, fun _ => ⟨fun _ => ⟨_, _, _, s_caseAgainst O OM (H.t 0) hg, hQ _ _ (H.t 0)⟩, fun q => absurd c1 q⟩⟩⟩
      · by_cases c2 : y = 2
        · refine ⟨ti 21 g, fun mi ml R => ?_, fun vi vl mi ml H => ?_⟩
          · refine ab_ex_q rfl rfl (fun Q hQ => vc_X11_held_0 _ _ mi ml ?_)
            rw [R.1.e186, O.R]
            simp (disch := omega) only [hg, R.1.e21, nI_ltI, nI_eq, nI_clamp, nI_1, xl_0, xg_0, xe_0, xe_m1, nI_0, xl_1, xl_2, xl_3, xl_4, xl_5, xl_6, xl_7, xl_8, xl_9, xl_10, xl_12, xl_20, xl_30, xl_32, xl_40, xl_41, xl_42, xl_48, xl_57, xl_59, xl_64, xl_97, xl_100, xl_122, xl_126, xl_128, xl_1000, xl_9999, xg_1, xg_2, xg_3, xg_4, xg_5, xg_6, xg_7, xg_8, xg_9, xg_10, xg_12, xg_20, xg_30, xg_32, xg_40, xg_41, xg_42, xg_48, xg_57, xg_59, xg_64, xg_97, xg_100, xg_122, xg_126, xg_128, xg_1000, xg_9999, xe_1, xe_2, xe_3, xe_4, xe_5, xe_6, xe_7, xe_8, xe_9, xe_10, xe_12, xe_20, xe_30, xe_32, xe_40, xe_41, xe_42, xe_48, xe_57, xe_59, xe_64, xe_97, xe_100, xe_122, xe_126, xe_128, xe_1000, xe_9999, true_implies, false_implies, not_true_eq_false, not_false_eq_true, and_true, true_and, forall_const, imp_self, lc_eq, implies_true, vin, Bool.true_eq_false, Bool.false_eq_true, false_and, and_false, or_false, false_or, or_true, true_or]
            exact ⟨fun q => absurd q c0, fun _ => ⟨fun q => absurd q c1, fun _ => ⟨fun _ => hQ _ _ R, fun q => absurd c2 q⟩⟩⟩
          · refine ab_ex_q rfl rfl (fun Q hQ => vc_X12_held_0 _ _ mi ml ?_)
            simp (disch := omega) only [hm vi vl mi ml H, hg, nI_ltI, nI_eq, nI_clamp, nI_1, xl_0, xg_0, xe_0, xe_m1, nI_0, xl_1, xl_2, xl_3, xl_4, xl_5, xl_6, xl_7, xl_8, xl_9, xl_10, xl_12, xl_20, xl_30, xl_32, xl_40, xl_41, xl_42, xl_48, xl_57, xl_59, xl_64, xl_97, xl_100, xl_122, xl_126, xl_128, xl_1000, xl_9999, xg_1, xg_2, xg_3, xg_4, xg_5, xg_6, xg_7, xg_8, xg_9, xg_10, xg_12, xg_20, xg_30, xg_32, xg_40, xg_41, xg_42, xg_48, xg_57, xg_59, xg_64, xg_97, xg_100, xg_122, xg_126, xg_128, xg_1000, xg_9999, xe_1, xe_2, xe_3, xe_4, xe_5, xe_6, xe_7, xe_8, xe_9, xe_10, xe_12, xe_20, xe_30, xe_32, xe_40, xe_41, xe_42, xe_48, xe_57, xe_59, xe_64, xe_97, xe_100, xe_122, xe_126, xe_128, xe_1000, xe_9999, true_implies, false_implies, not_true_eq_false, not_false_eq_true, and_true, true_and, forall_const, imp_self, lc_eq, implies_true, vin, Bool.true_eq_false, Bool.false_eq_true, false_and, and_false, or_false, false_or, or_true, true_or]
            refine ⟨_, _, _, s_withinN _ 2 (by decide), ?_⟩
            rw [pI_1 ⟨2, by decide, c2⟩]
            refine ⟨fun q => (by cases q), fun _ => ⟨fun q => absurd q c0, fun _ => ⟨fun q => absurd q c1, fun _ => ?_⟩⟩⟩
            simp (disch := omega) only [(H.t 0).e61, (OM.g g hg).1, nI_ltI, nI_eq, nI_clamp, nI_1, xl_0, xg_0, xe_0, xe_m1, nI_0, xl_1, xl_2, xl_3, xl_4, xl_5, xl_6, xl_7, xl_8, xl_9, xl_10, xl_12, xl_20, xl_30, xl_32, xl_40, xl_41, xl_42, xl_48, xl_57, xl_59, xl_64, xl_97, xl_100, xl_122, xl_126, xl_128, xl_1000, xl_9999, xg_1, xg_2, xg_3, xg_4, xg_5, xg_6, xg_7, xg_8, xg_9, xg_10, xg_12, xg_20, xg_30, xg_32, xg_40, xg_41, xg_42, xg_48, xg_57, xg_59, xg_64, xg_97, xg_100, xg_122, xg_126, xg_128, xg_1000, xg_9999, xe_1, xe_2, xe_3, xe_4, xe_5, xe_6, xe_7, xe_8, xe_9, xe_10, xe_12, xe_20, xe_30, xe_32, xe_40, xe_41, xe_42, xe_48, xe_57, xe_59, xe_64, xe_97, xe_100, xe_122, xe_126, xe_128, xe_1000, xe_9999, true_implies, false_implies, not_true_eq_false, not_false_eq_true, and_true, true_and, forall_const, imp_self, lc_eq, implies_true, vin, Bool.true_eq_false, Bool.false_eq_true, false_and, and_false, or_false, false_or, or_true, true_or]
            exact hQ _ _ (H.t 0)
        · refine ⟨-1, fun mi ml R => ?_, fun vi vl mi ml H => ?_⟩
          · refine ab_ex_q rfl rfl (fun Q hQ => vc_X11_held_0 _ _ mi ml ?_)
            rw [R.1.e186, O.R]
            simp (disch := omega) only [hg, nI_ltI, nI_eq, nI_clamp, nI_1, xl_0, xg_0, xe_0, xe_m1, nI_0, xl_1, xl_2, xl_3, xl_4, xl_5, xl_6, xl_7, xl_8, xl_9, xl_10, xl_12, xl_20, xl_30, xl_32, xl_40, xl_41, xl_42, xl_48, xl_57, xl_59, xl_64, xl_97, xl_100, xl_122, xl_126, xl_128, xl_1000, xl_9999, xg_1, xg_2, xg_3, xg_4, xg_5, xg_6, xg_7, xg_8, xg_9, xg_10, xg_12, xg_20, xg_30, xg_32, xg_40, xg_41, xg_42, xg_48, xg_57, xg_59, xg_64, xg_97, xg_100, xg_122, xg_126, xg_128, xg_1000, xg_9999, xe_1, xe_2, xe_3, xe_4, xe_5, xe_6, xe_7, xe_8, xe_9, xe_10, xe_12, xe_20, xe_30, xe_32, xe_40, xe_41, xe_42, xe_48, xe_57, xe_59, xe_64, xe_97, xe_100, xe_122, xe_126, xe_128, xe_1000, xe_9999, true_implies, false_implies, not_true_eq_false, not_false_eq_true, and_true, true_and, forall_const, imp_self, lc_eq, implies_true, vin, Bool.true_eq_false, Bool.false_eq_true, false_and, and_false, or_false, false_or, or_true, true_or]
            exact ⟨fun q => absurd q c0, fun _ => ⟨fun q => absurd q c1, fun _ => ⟨fun q => absurd q c2, fun _ => hQ _ _ R⟩⟩⟩
          · refine ab_ex_q rfl rfl (fun Q hQ => vc_X12_held_0 _ _ mi ml ?_)
            simp (disch := omega) only [hm vi vl mi ml H, hg, nI_ltI, nI_eq, nI_clamp, nI_1, xl_0, xg_0, xe_0, xe_m1, nI_0, xl_1, xl_2, xl_3, xl_4, xl_5, xl_6, xl_7, xl_8, xl_9, xl_10, xl_12, xl_20, xl_30, xl_32, xl_40, xl_41, xl_42, xl_48, xl_57, xl_59, xl_64, xl_97, xl_100, xl_122, xl_126, xl_128, xl_1000, xl_9999, xg_1, xg_2, xg_3, xg_4, xg_5, xg_6, xg_7, xg_8, xg_9, xg_10, xg_12, xg_20, xg_30, xg_32, xg_40, xg_41, xg_42, xg_48, xg_57, xg_59, xg_64, xg_97, xg_100, xg_122, xg_126, xg_128, xg_1000, xg_9999, xe_1, xe_2, xe_3, xe_4, xe_5, xe_6, xe_7, xe_8, xe_9, xe_10, xe_12, xe_20, xe_30, xe_32, xe_40, xe_41, xe_42, xe_48, xe_57, xe_59, xe_64, xe_97, xe_100, xe_122, xe_126, xe_128, xe_1000, xe_9999, true_implies, false_implies, not_true_eq_false, not_false_eq_true, and_true, true_and, forall_const, imp_self, lc_eq, implies_true, vin, Bool.true_eq_false, Bool.false_eq_true, false_and, and_false, or_false, false_or, or_true, true_or]
            refine ⟨_, _, _, s_withinN _ 2 (by decide), ?_⟩
            rw [pI_0]
            · exact ⟨fun _ => hQ _ _ (H.t 0), fun q => absurd rfl q⟩
            · rintro ⟨w, hw, e⟩
              match w, hw with
              | 0, _ => exact c0 e
              | 1, _ => exact c1 e
              | 2, _ => exact c2 e
  · refine ⟨-1, fun mi ml R => ?_, fun vi vl mi ml H => ?_⟩
    · refine ab_ex_q rfl rfl (fun Q hQ => vc_X11_held_0 _ _ mi ml ?_)
      rw [R.1.e186, O.R]
      exact ⟨fun _ => hQ _ _ R, fun c1 => ⟨fun c2 => absurd ((rg2 (by omega)).1 ⟨c1, c2⟩) c, fun _ => hQ _ _ R⟩⟩
    · refine ab_ex_q rfl rfl (fun Q hQ => vc_X12_held_0 _ _ mi ml ?_)
      rw [H.s30, OM.s30, O.R]
      exact ⟨fun _ => hQ _ _ (H.t 0), fun c1 => ⟨fun c2 => absurd ((rg2 (by omega)).1 ⟨c1, c2⟩) c, fun _ => hQ _ _ (H.t 0)⟩⟩)
end Q1
