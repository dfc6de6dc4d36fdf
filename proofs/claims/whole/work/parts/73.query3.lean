/-! Questions on groups, least sets and drafts. -/
section Q3
variable {ro : ab_E} {d : Nat} {ti mi vi : cM1} {tl ml vl : cM2}
theorem op_group (x y : Int32) : OP ro 116 205 [.int x, .int y] := OPq (fun ti tl O OM => by
  have hW := O.W2
  have hG := nG_le ti tl
  by_cases c : (∃ w, w < nG ti tl ∧ x = nI w)
  · obtain ⟨g, hg, rfl⟩ := id c
    have hc : ∀ mi ml, rP ti tl mi ml → ∃ mi1 ml1, cS ro 39 138 [.ref 0] mi ml none mi1 ml1 ∧ cP ti tl mi1 ml1 := fun mi ml R => s_settle (ro := ro) (d := 32) O R.1 R.2
    have hm : ∀ vi vl mi ml, eqM ti tl vi vl mi ml → ∃ mi1 ml1, cS ro 39 198 [.ref 40] (ab_ui mi 40 0 0) ml none mi1 ml1 ∧ mP ti tl vi vl mi1 ml1 := fun vi vl mi ml H => by
      obtain ⟨mi1, ml1, s1, _, M1⟩ := s_findGroups (ro := ro) (d := 35) O OM (H.t 0)
      exact ⟨mi1, ml1, s1, M1⟩
    by_cases cy : ∃ k, k < 4 ∧ y = nI k
    · obtain ⟨k, hk, rfl⟩ := cy
      refine ⟨nI (wei ti tl k g), fun mi ml R => ?_, fun vi vl mi ml H => ?_⟩
      · obtain ⟨mi1, ml1, s1, C1⟩ := hc mi ml R
        obtain ⟨ml2, s2, C2, _⟩ := s_weigh (ro := ro) (d := 34) O C1 (g := g) (by omega) hk
        have e : cSeen mi1 = cSeen ti := C1.1.qcSeen
        have s0 : cS ro 39 13 [.ref 1] mi1 ml1 (some (.int (cSeen ti))) mi1 ml1 := e ▸ s_seen
        have fin : ∀ {Q : Option Value → ab_S → Prop}, (∀ mi' ml', rP ti tl mi' ml' → Q (some (.int (nI (wei ti tl k g)))) (ab_G mi' ml')) → ∃ (r8 : Int32) (mi6 : cM1) (ml7 : cM2), cs ro 39 13 [.ref 1] (ab_G mi1 ml1) (some (.int r8)) (ab_G mi6 ml7) ∧ (∃ (r11 : Int32) (mi9 : cM1) (ml10 : cM2), cs ro 39 90 [.ref 33, .int (nI g), .int (nI k), .int r8] (ab_G mi6 ml7) (some (.int r11)) (ab_G mi9 ml10) ∧ Q (some (.int r11)) (ab_G mi9 ml10)) := fun hQ => ⟨_, _, _, s0, _, _, _, s2, hQ _ _ C2.r⟩
        refine ab_ex_q rfl rfl (fun Q hQ => vc_X11_group_0 _ _ mi ml ⟨_, _, s1, _, _, _, s_isGroupC O C1 _, ?_⟩)
        rw [pI_1 c]
        refine ⟨fun q => (by cases q), fun _ => ⟨fun _ => fin hQ, fun c0 => ⟨fun _ => fin hQ, fun c1 => ⟨fun _ => fin hQ, fun c2 => ⟨fun _ => fin hQ, fun c3 => ?_⟩⟩⟩⟩⟩
        match k, hk with
        | 0, _ => exact absurd rfl c0
        | 1, _ => exact absurd rfl c1
        | 2, _ => exact absurd rfl c2
        | 3, _ => exact absurd rfl c3
      · obtain ⟨mi1, ml1, s1, M1⟩ := hm vi vl mi ml H
        refine ab_ex_q rfl rfl (fun Q hQ => vc_X12_group_0 _ _ mi ml ⟨_, _, s1, _, _, _, s_misGroup O M1.2.1 _, ?_⟩)
        rw [pI_1 c]
        unfold wei at hQ
        by_cases c0 : k = 0
        · subst c0
          exact ⟨fun q => (by cases q), fun _ => ⟨fun _ => ⟨_, _, _, s_handsOf O OM M1 (nI g), hQ _ _ M1.1⟩, fun q => absurd rfl q⟩⟩
        · have n0 : ¬ nI k = 0 := by rw [xe_0 (by omega)]; exact c0
          rw [if_neg c0] at hQ
          by_cases c1 : k = 1
          · subst c1
            exact ⟨fun q => (by cases q), fun _ => ⟨fun q => absurd q n0, fun _ => ⟨fun _ => ⟨_, _, _, s_housesOf O OM M1 (nI g), hQ _ _ M1.1⟩, fun q => absurd rfl q⟩⟩⟩
          · have n1 : ¬ nI k = 1 := by rw [xe_1 (by omega)]; exact c1
            rw [if_neg c1] at hQ
            by_cases c2 : k = 2
            · subst c2
              obtain ⟨mi2, ml2, s2, F2⟩ := s_reachOf (ro := ro) (d := 35) O OM M1 (g := g) (by omega)
              exact ⟨fun q => (by cases q), fun _ => ⟨fun q => absurd q n0, fun _ => ⟨fun q => absurd q n1, fun _ => ⟨fun _ => ⟨_, _, _, s2, hQ _ _ (M1.fr F2).1⟩, fun q => absurd rfl q⟩⟩⟩⟩
            · have n2 : ¬ nI k = 2 := by rw [xe_2 (by omega)]; exact c2
              have e3 : k = 3 := by omega
              subst e3
              rw [if_neg c2] at hQ
              exact ⟨fun q => (by cases q), fun _ => ⟨fun q => absurd q n0, fun _ => ⟨fun q => absurd q n1, fun _ => ⟨fun q => absurd q n2, fun _ => ⟨fun _ => ⟨_, _, _, s_groundsOf O OM M1 (nI g), hQ _ _ M1.1⟩, fun q => absurd rfl q⟩⟩⟩⟩⟩
    · have n0 : ¬ y = 0 := fun e => cy ⟨0, by decide, e⟩
      have n1 : ¬ y = 1 := fun e => cy ⟨1, by decide, e⟩
      have n2 : ¬ y = 2 := fun e => cy ⟨2, by decide, e⟩
      have n3 : ¬ y = 3 := fun e => cy ⟨3, by decide, e⟩
      by_cases c4 : y = 4
      · refine ⟨nI (led ti tl g), fun mi ml R => ?_, fun vi vl mi ml H => ?_⟩
        · obtain ⟨mi1, ml1, s1, C1⟩ := hc mi ml R
          refine ab_ex_q rfl rfl (fun Q hQ => vc_X11_group_0 _ _ mi ml ⟨_, _, s1, _, _, _, s_isGroupC O C1 _, ?_⟩)
          rw [pI_1 c]
          refine ⟨fun q => (by cases q), fun _ => ⟨fun q => absurd q n0, fun _ => ⟨fun q => absurd q n1, fun _ => ⟨fun q => absurd q n2, fun _ => ⟨fun q => absurd q n3, fun _ => ⟨fun _ => ?_, fun q => absurd c4 q⟩⟩⟩⟩⟩⟩
          simp (disch := omega) only [C1.2.1.f hg, nI_ltI, nI_eq, nI_clamp, nI_1, xl_0, xg_0, xe_0, xe_m1, nI_0, xl_1, xl_2, xl_3, xl_4, xl_5, xl_6, xl_7, xl_8, xl_9, xl_10, xl_12, xl_20, xl_30, xl_32, xl_40, xl_41, xl_42, xl_48, xl_57, xl_59, xl_64, xl_97, xl_100, xl_122, xl_126, xl_128, xl_1000, xl_9999, xg_1, xg_2, xg_3, xg_4, xg_5, xg_6, xg_7, xg_8, xg_9, xg_10, xg_12, xg_20, xg_30, xg_32, xg_40, xg_41, xg_42, xg_48, xg_57, xg_59, xg_64, xg_97, xg_100, xg_122, xg_126, xg_128, xg_1000, xg_9999, xe_1, xe_2, xe_3, xe_4, xe_5, xe_6, xe_7, xe_8, xe_9, xe_10, xe_12, xe_20, xe_30, xe_32, xe_40, xe_41, xe_42, xe_48, xe_57, xe_59, xe_64, xe_97, xe_100, xe_122, xe_126, xe_128, xe_1000, xe_9999, true_implies, false_implies, not_true_eq_false, not_false_eq_true, and_true, true_and, forall_const, imp_self, lc_eq, implies_true, vin, Bool.true_eq_false, Bool.false_eq_true, false_and, and_false, or_false, false_or, or_true, true_or]
          exact hQ _ _ C1.r
        · obtain ⟨mi1, ml1, s1, M1⟩ := hm vi vl mi ml H
          refine ab_ex_q rfl rfl (fun Q hQ => vc_X12_group_0 _ _ mi ml ⟨_, _, s1, _, _, _, s_misGroup O M1.2.1 _, ?_⟩)
          rw [pI_1 c]
          refine ⟨fun q => (by cases q), fun _ => ⟨fun q => absurd q n0, fun _ => ⟨fun q => absurd q n1, fun _ => ⟨fun q => absurd q n2, fun _ => ⟨fun q => absurd q n3, fun _ => ⟨fun _ => ?_, fun q => absurd c4 q⟩⟩⟩⟩⟩⟩
          simp (disch := omega) only [M1.2.2.2 g hg, nI_ltI, nI_eq, nI_clamp, nI_1, xl_0, xg_0, xe_0, xe_m1, nI_0, xl_1, xl_2, xl_3, xl_4, xl_5, xl_6, xl_7, xl_8, xl_9, xl_10, xl_12, xl_20, xl_30, xl_32, xl_40, xl_41, xl_42, xl_48, xl_57, xl_59, xl_64, xl_97, xl_100, xl_122, xl_126, xl_128, xl_1000, xl_9999, xg_1, xg_2, xg_3, xg_4, xg_5, xg_6, xg_7, xg_8, xg_9, xg_10, xg_12, xg_20, xg_30, xg_32, xg_40, xg_41, xg_42, xg_48, xg_57, xg_59, xg_64, xg_97, xg_100, xg_122, xg_126, xg_128, xg_1000, xg_9999, xe_1, xe_2, xe_3, xe_4, xe_5, xe_6, xe_7, xe_8, xe_9, xe_10, xe_12, xe_20, xe_30, xe_32, xe_40, xe_41, xe_42, xe_48, xe_57, xe_59, xe_64, xe_97, xe_100, xe_122, xe_126, xe_128, xe_1000, xe_9999, true_implies, false_implies, not_true_eq_false, not_false_eq_true, and_true, true_and, forall_const, imp_self, lc_eq, implies_true, vin, Bool.true_eq_false, Bool.false_eq_true, false_and, and_false, or_false, false_or, or_true, true_or]
          exact hQ _ _ M1.1
      · by_cases c5 : y = 5
        · refine ⟨nI (pcn (fun w => pB (ofG ti tl w = nI g)) (nW ti)), fun mi ml R => ?_, fun vi vl mi ml H => ?_⟩
          · obtain ⟨mi1, ml1, s1, C1⟩ := hc mi ml R
            refine ab_ex_q rfl rfl (fun Q hQ => vc_X11_group_0 _ _ mi ml ⟨_, _, s1, _, _, _, s_isGroupC O C1 _, ?_⟩)
            rw [pI_1 c]
            exact ⟨fun q => (by cases q), fun _ => ⟨fun q => absurd q n0, fun _ => ⟨fun q => absurd q n1, fun _ => ⟨fun q => absurd q n2, fun _ => ⟨fun q => absurd q n3, fun _ => ⟨fun q => absurd q c4, fun _ => ⟨fun _ => ⟨_, _, _, s_wishesIn O C1 _, hQ _ _ C1.r⟩, fun q => absurd c5 q⟩⟩⟩⟩⟩⟩⟩
          · obtain ⟨mi1, ml1, s1, M1⟩ := hm vi vl mi ml H
            refine ab_ex_q rfl rfl (fun Q hQ => vc_X12_group_0 _ _ mi ml ⟨_, _, s1, _, _, _, s_misGroup O M1.2.1 _, ?_⟩)
            rw [pI_1 c]
            exact ⟨fun q => (by cases q), fun _ => ⟨fun q => absurd q n0, fun _ => ⟨fun q => absurd q n1, fun _ => ⟨fun q => absurd q n2, fun _ => ⟨fun q => absurd q n3, fun _ => ⟨fun q => absurd q c4, fun _ => ⟨fun _ => ⟨_, _, _, s_wishesOf O OM M1 _, hQ _ _ M1.1⟩, fun q => absurd c5 q⟩⟩⟩⟩⟩⟩⟩
        · refine ⟨-1, fun mi ml R => ?_, fun vi vl mi ml H => ?_⟩
          · obtain ⟨mi1, ml1, s1, C1⟩ := hc mi ml R
            refine ab_ex_q rfl rfl (fun Q hQ => vc_X11_group_0 _ _ mi ml ⟨_, _, s1, _, _, _, s_isGroupC O C1 _, ?_⟩)
            rw [pI_1 c]
            exact ⟨fun q => (by cases q), fun _ => ⟨fun q => absurd q n0, fun _ => ⟨fun q => absurd q n1, fun _ => ⟨fun q => absurd q n2, fun _ => ⟨fun q => absurd q n3, fun _ => ⟨fun q => absurd q c4, fun _ => ⟨fun q => absurd q c5, fun _ => hQ _ _ C1.r⟩⟩⟩⟩⟩⟩⟩
          · obtain ⟨mi1, ml1, s1, M1⟩ := hm vi vl mi ml H
            refine ab_ex_q rfl rfl (fun Q hQ => vc_X12_group_0 _ _ mi ml ⟨_, _, s1, _, _, _, s_misGroup O M1.2.1 _, ?_⟩)
            rw [pI_1 c]
            exact ⟨fun q => (by cases q), fun _ => ⟨fun q => absurd q n0, fun _ => ⟨fun q => absurd q n1, fun _ => ⟨fun q => absurd q n2, fun _ => ⟨fun q => absurd q n3, fun _ => ⟨fun q => absurd q c4, fun _ => ⟨fun q => absurd q c5, fun _ => hQ _ _ M1.1⟩⟩⟩⟩⟩⟩⟩
  · refine ⟨-1, fun mi ml R => ?_, fun vi vl mi ml H => ?_⟩
    · obtain ⟨mi1, ml1, s1, C1⟩ := s_settle (ro := ro) (d := 32) O R.1 R.2
      refine ab_ex_q rfl rfl (fun Q hQ => vc_X11_group_0 _ _ mi ml ⟨_, _, s1, _, _, _, s_isGroupC O C1 _, ?_⟩)
      rw [pI_0 c]
      exact ⟨fun _ => hQ _ _ C1.r, fun q => absurd rfl q⟩
    · obtain ⟨mi1, ml1, s1, _, M1⟩ := s_findGroups (ro := ro) (d := 35) O OM (H.t 0)
      refine ab_ex_q rfl rfl (fun Q hQ => vc_X12_group_0 _ _ mi ml ⟨_, _, s1, _, _, _, s_misGroup O M1.2.1 _, ?_⟩)
      rw [pI_0 c]
      exact ⟨fun _ => hQ _ _ M1.1, fun q => absurd rfl q⟩)
theorem rg13 {x : Int32} : (¬ x < 1 ∧ ¬ (3 : Int32) < x) ↔ ∃ n, 1 ≤ n ∧ n ≤ 3 ∧ x = nI n := by
  constructor
  · rintro ⟨h1, h2⟩
    rcases dx x with h | ⟨w, hw, rfl⟩
    · exfalso
      apply h1
      rw [Int32.lt_iff_toInt_lt] at h ⊢
      have e0 : (0 : Int32).toInt = 0 := by decide
      have e1 : (1 : Int32).toInt = 1 := by decide
      omega
    · rw [xl_1 hw] at h1
      rw [xg_3 hw] at h2
      exact ⟨w, by omega, by omega, rfl⟩
  · rintro ⟨w, h1, h2, rfl⟩
    rw [xl_1 (by omega), xg_3 (by omega)]
    omega
theorem op_least (x : Int32) : OP ro 119 219 [.int x] := OPq (fun ti tl O OM => by
  by_cases c : ∃ n, 1 ≤ n ∧ n ≤ 3 ∧ x = nI n
  · have cc := rg13.2 c
    obtain ⟨n, h1, h3, rfl⟩ := c
    refine ⟨((lsts ti tl n).foldl (mt (-1)) (0, -1)).1, fun mi ml R => ?_, fun vi vl mi ml H => ?_⟩
    · obtain ⟨mi1, ml1, s1, C1⟩ := s_settle (ro := ro) (d := 32) O R.1 R.2
      obtain ⟨mi2, ml2, s2, C2, e1, _⟩ := s_seek (ro := ro) (d := 31) (w := -1) O C1 h1 h3
      refine ab_ex_q rfl rfl (fun Q hQ => vc_X11_least_0 _ mi ml ⟨_, _, s1, fun q => absurd q cc.1, fun _ => ⟨fun q => absurd q cc.2, fun _ => ⟨_, _, s2, ?_⟩⟩⟩)
      rw [e1]; exact hQ _ _ C2.r
    · obtain ⟨mi2, ml2, s2, M2, F2⟩ := s_findLeast (ro := ro) (d := 34) (w := -1) O OM (H.t 0) h1 h3
      refine ab_ex_q rfl rfl (fun Q hQ => vc_X12_least_0 _ mi ml ⟨_, _, _, s_within _ 1 3, ?_⟩)
      rw [pI_1 cc]
      refine ⟨fun q => (by cases q), fun _ => ⟨_, _, s2, ?_⟩⟩
      rw [F2.1]; exact hQ _ _ M2.1
  · have cc : ¬ (¬ x < 1 ∧ ¬ (3 : Int32) < x) := fun h => c (rg13.1 h)
    refine ⟨-1, fun mi ml R => ?_, fun vi vl mi ml H => ?_⟩
    · obtain ⟨mi1, ml1, s1, C1⟩ := s_settle (ro := ro) (d := 32) O R.1 R.2
      exact ab_ex_q rfl rfl (fun Q hQ => vc_X11_least_0 _ mi ml ⟨_, _, s1, fun _ => hQ _ _ C1.r, fun c1 => ⟨fun _ => hQ _ _ C1.r, fun c2 => absurd ⟨c1, c2⟩ cc⟩⟩)
    · refine ab_ex_q rfl rfl (fun Q hQ => vc_X12_least_0 _ mi ml ⟨_, _, _, s_within _ 1 3, ?_⟩)
      rw [pI_0 cc]
      exact ⟨fun _ => hQ _ _ (H.t 0), fun q => absurd rfl q⟩)
theorem op_leastSet (x y : Int32) : OP ro 120 220 [.int x, .int y] := OPq (fun ti tl O OM => by
  by_cases c : (∃ n, 1 ≤ n ∧ n ≤ 3 ∧ x = nI n) ∧ ¬ y < 0
  · obtain ⟨c, cy⟩ := c
    have cc := rg13.2 c
    obtain ⟨n, h1, h3, rfl⟩ := c
    refine ⟨((lsts ti tl n).foldl (mt y) (0, -1)).2, fun mi ml R => ?_, fun vi vl mi ml H => ?_⟩
    · obtain ⟨mi1, ml1, s1, C1⟩ := s_settle (ro := ro) (d := 32) O R.1 R.2
      obtain ⟨mi2, ml2, s2, C2, _, e1⟩ := s_seek (ro := ro) (d := 31) (w := y) O C1 h1 h3
      refine ab_ex_q rfl rfl (fun Q hQ => vc_X11_leastSet_0 _ _ mi ml ⟨_, _, s1, fun q => absurd q cc.1, fun _ => ⟨fun q => absurd q cc.2, fun _ => ⟨fun q => absurd q cy, fun _ => ⟨_, _, s2, ?_⟩⟩⟩⟩)
      rw [e1]; exact hQ _ _ C2.r
    · obtain ⟨mi2, ml2, s2, M2, F2⟩ := s_findLeast (ro := ro) (d := 34) (w := y) O OM (H.t 0) h1 h3
      refine ab_ex_q rfl rfl (fun Q hQ => vc_X12_leastSet_0 _ _ mi ml ⟨_, _, _, s_within _ 1 3, ?_⟩)
      rw [pI_1 cc]
      refine ⟨fun q => (by cases q), fun _ => ⟨fun q => absurd q cy, fun _ => ⟨_, _, s2, ?_⟩⟩⟩
      rw [F2.2]; exact hQ _ _ M2.1
  · refine ⟨-1, fun mi ml R => ?_, fun vi vl mi ml H => ?_⟩
    · obtain ⟨mi1, ml1, s1, C1⟩ := s_settle (ro := ro) (d := 32) O R.1 R.2
      exact ab_ex_q rfl rfl (fun Q hQ => vc_X11_leastSet_0 _ _ mi ml ⟨_, _, s1, fun _ => hQ _ _ C1.r, fun c1 => ⟨fun _ => hQ _ _ C1.r, fun c2 => ⟨fun _ => hQ _ _ C1.r, fun c3 => absurd ⟨rg13.1 ⟨c1, c2⟩, c3⟩ c⟩⟩⟩)
    · refine ab_ex_q rfl rfl (fun Q hQ => vc_X12_leastSet_0 _ _ mi ml ⟨_, _, _, s_within _ 1 3, ?_⟩)
      rw [pI_e0]
      exact ⟨fun _ => hQ _ _ (H.t 0), fun c1 => ⟨fun _ => hQ _ _ (H.t 0), fun c2 => absurd ⟨rg13.1 (Classical.not_not.1 c1), c2⟩ c⟩⟩)
theorem dI_m1 (wt : Nat) : (dI (drf ti tl wt) = -1) = (drf ti tl wt = none) := by
  cases h : drf ti tl wt with
  | none => simp [dI]
  | some t =>
    have := (drf_lt h).2.1
    show (nI t = -1) = _
    rw [xe_m1 (by omega)]; simp
/-- the class's draft -/
theorem c_draft (O : okT ti) (x : Int32) (R : rP ti tl mi ml) : (∃ wt, wt < 4 ∧ x = nI wt ∧ ∃ mi' ml', cS ro 39 139 [.ref 0, .int x] mi ml (some (.int (dI (drf ti tl wt)))) mi' ml' ∧ cP ti tl mi' ml' ∧ ∀ t, drf ti tl wt = some t → mi' 34 4 = nI (ws (wei ti tl wt) t (nD ti tl))) ∨ ((¬ ∃ wt, wt < 4 ∧ x = nI wt) ∧ cS ro 39 139 [.ref 0, .int x] mi ml (some (.int (-1))) mi ml) := by
  by_cases c : ∃ wt, wt < 4 ∧ x = nI wt
  · obtain ⟨wt, hw, rfl⟩ := c
    exact Or.inl ⟨wt, hw, rfl, s_draftBy (ro := ro) (d := 19) O R.1 R.2 hw⟩
  · refine Or.inr ⟨c, s_draftBy_no (d := 38) ?_⟩
    by_cases h1 : x < 0
    · exact Or.inl h1
    · by_cases h2 : 3 < x
      · exact Or.inr h2
      · exact absurd ((rg (n := 3) (by decide)).1 ⟨h1, h2⟩) c
theorem bS {t : Nat} : b3 (nI t) = b3 (nI t) := rfl
theorem op_draft (x y : Int32) : OP ro 121 222 [.int x, .int y] := OPq (fun ti tl O OM => by
  have hD := nD_le ti tl
  by_cases c : ∃ wt, wt < 4 ∧ x = nI wt
  · obtain ⟨wt, hw, rfl⟩ := id c
    have hcl : ∀ mi ml, rP ti tl mi ml → ∃ mi' ml', cS ro 39 139 [.ref 0, .int (nI wt)] mi ml (some (.int (dI (drf ti tl wt)))) mi' ml' ∧ cP ti tl mi' ml' ∧ ∀ t, drf ti tl wt = some t → mi' 34 4 = nI (ws (wei ti tl wt) t (nD ti tl)) := fun mi ml R => s_draftBy (ro := ro) (d := 19) O R.1 R.2 hw
    have hmo : ∀ vi vl mi ml, eqM ti tl vi vl mi ml → ∃ mi' ml', cS ro 39 221 [.ref 40, .int (nI wt)] (ab_ui mi 40 0 0) ml none mi' ml' ∧ mP ti tl vi vl mi' ml' ∧ mdOK (wei ti tl wt) (nD ti tl) (drf ti tl wt) mi' := fun vi vl mi ml H => s_findDraft (ro := ro) (d := 33) O OM (H.t 0) hw
    cases hd : drf ti tl wt with
    | none =>
      refine ⟨-1, fun mi ml R => ?_, fun vi vl mi ml H => ?_⟩
      · obtain ⟨mi1, ml1, s1, C1, _⟩ := hcl mi ml R
        rw [hd] at s1
        exact ab_ex_q rfl rfl (fun Q hQ => vc_X11_draft_0 _ _ mi ml ⟨_, _, _, s1, fun _ => hQ _ _ C1.r, fun q => absurd rfl q⟩)
      · obtain ⟨mi1, ml1, s1, M1, D1⟩ := hmo vi vl mi ml H
        rw [hd] at D1
        have D2 : mi1 40 58 = -1 := D1
        refine ab_ex_q rfl rfl (fun Q hQ => vc_X12_draft_0 _ _ mi ml ⟨_, _, _, s_withinN _ 3 (by decide), ?_⟩)
        rw [pI_1 c]
        refine ⟨fun q => (by cases q), fun _ => ⟨_, _, _, s_withinN _ 3 (by decide), ?_⟩⟩
        rw [pI_e0]
        refine ⟨fun _ => hQ _ _ (H.t 0), fun _ => ⟨_, _, s1, ?_⟩⟩
        rw [D2, m1_neg]
        exact ⟨fun _ => hQ _ _ M1.1, fun q => absurd trivial q⟩
    | some t =>
      have ht := drf_lt hd
      have hgo : goeP ti tl (b3 (nI t)) := ht.2.2
      have hne : ¬ nI t = -1 := by rw [xe_m1 (by omega)]; exact id
      have hc2 : ∀ mi ml, rP ti tl mi ml → ∃ mi' ml', cS ro 39 139 [.ref 0, .int (nI wt)] mi ml (some (.int (nI t))) mi' ml' ∧ cP ti tl mi' ml' ∧ mi' 34 4 = nI (ws (wei ti tl wt) t (nD ti tl)) := fun mi ml R => by
        obtain ⟨mi1, ml1, s1, C1, h1⟩ := hcl mi ml R
        rw [hd] at s1
        exact ⟨mi1, ml1, s1, C1, h1 t hd⟩
      have hm2 : ∀ vi vl mi ml, eqM ti tl vi vl mi ml → (∃ k, k < 4 ∧ y = nI k) → ∃ mi' ml', eqM ti tl vi vl mi' ml' ∧ lwS ti tl (b3 (nI t)) mi' ml' ∧ mi' 40 58 = nI t ∧ mi' 40 59 = nI (ws (wei ti tl wt) t (nD ti tl)) ∧ ∀ Q : Option Value → ab_S → Prop, (y = 0 → Q (some (.int (mi' 40 58))) (ab_G mi' ml')) → (¬ y = 0 → (y = 1 → Q (some (.int (mi' 40 59))) (ab_G mi' ml')) ∧ (¬ y = 1 → (y = 2 → Q (some (.int (mi' 40 36))) (ab_G mi' ml')) ∧ (¬ y = 2 → ∃ (r15 : Int32) (mi13 : cM1) (ml14 : cM2), cs ro 39 191 [.ref 40] (ab_G mi' ml') (some (.int r15)) (ab_G mi13 ml14) ∧ Q (some (.int r15)) (ab_G mi13 ml14)))) → W_X12_draft_0 (cs ro 39) ro Q (nI wt) y mi ml := fun vi vl mi ml H cy => by
        obtain ⟨mi1, ml1, s1, M1, D1⟩ := hmo vi vl mi ml H
        rw [hd] at D1
        obtain ⟨D2, D3⟩ := D1
        obtain ⟨mi2, mi3, ml3, s2, s3, F3, L3⟩ := s_tg_builds (ro := ro) (d := 37) O OM M1 (nI t) hgo.1
        refine ⟨mi3, ml3, (M1.fr F3).1, L3, (F3.1 40 58 rfl).trans D2, (F3.1 40 59 rfl).trans D3, fun Q q0 q1 => ?_⟩
        refine vc_X12_draft_0 _ _ mi ml ⟨_, _, _, s_withinN _ 3 (by decide), ?_⟩
        rw [pI_1 c]
        refine ⟨fun q => (by cases q), fun _ => ⟨_, _, _, s_withinN _ 3 (by decide), ?_⟩⟩
        rw [pI_1 cy]
        refine ⟨fun q => (by cases q), fun _ => ⟨_, _, s1, ?_⟩⟩
        rw [D2, xl_0 (by omega)]
        exact ⟨fun q => absurd q id, fun _ => ⟨_, _, s2, _, _, s3, q0, q1⟩⟩
      by_cases c0 : y = 0
      · refine ⟨nI t, fun mi ml R => ?_, fun vi vl mi ml H => ?_⟩
        · obtain ⟨mi1, ml1, s1, C1, _⟩ := hc2 mi ml R
          exact ab_ex_q rfl rfl (fun Q hQ => vc_X11_draft_0 _ _ mi ml ⟨_, _, _, s1, fun q => absurd q hne, fun _ => ⟨fun _ => hQ _ _ C1.r, fun q => absurd c0 q⟩⟩)
        · obtain ⟨mi1, ml1, H1, L1, e1, e2, hW1⟩ := hm2 vi vl mi ml H ⟨0, by decide, c0⟩
          refine ab_ex_q rfl rfl (fun Q hQ => hW1 Q (fun _ => ?_) (fun q => absurd c0 q))
          rw [e1]; exact hQ _ _ H1
      · by_cases c1 : y = 1
        · refine ⟨nI (ws (wei ti tl wt) t (nD ti tl)), fun mi ml R => ?_, fun vi vl mi ml H => ?_⟩
          · obtain ⟨mi1, ml1, s1, C1, e1⟩ := hc2 mi ml R
            refine ab_ex_q rfl rfl (fun Q hQ => vc_X11_draft_0 _ _ mi ml ⟨_, _, _, s1, fun q => absurd q hne, fun _ => ⟨fun q => absurd q c0, fun _ => ⟨fun _ => ?_, fun q => absurd c1 q⟩⟩⟩)
            rw [e1]; exact hQ _ _ C1.r
          · obtain ⟨mi1, ml1, H1, L1, e1, e2, hW1⟩ := hm2 vi vl mi ml H ⟨1, by decide, c1⟩
            refine ab_ex_q rfl rfl (fun Q hQ => hW1 Q (fun q => absurd q c0) (fun _ => ⟨fun _ => ?_, fun q => absurd c1 q⟩))
            rw [e2]; exact hQ _ _ H1
        · by_cases c2 : y = 2
          · refine ⟨nI (pcn (lawS ti tl (b3 (nI t))) 42), fun mi ml R => ?_, fun vi vl mi ml H => ?_⟩
            · obtain ⟨mi1, ml1, s1, C1, e1⟩ := hc2 mi ml R
              obtain ⟨r, s2, h2⟩ := s_lawBy (ro := ro) (d := 37) O C1.h (nI t)
              have s3 := s_bc6 (ro := ro) (d := 38) (mi := mi1) (ml := ml1) r
              rw [h2, pcn_cut (m := 42) (by decide) (fun i h1 _ => by
                cases q : lawS ti tl (b3 (nI t)) i with
                | false => rfl
                | true => have := LK_lt O q; omega)] at s3
              exact ab_ex_q rfl rfl (fun Q hQ => vc_X11_draft_0 _ _ mi ml ⟨_, _, _, s1, fun q => absurd q hne, fun _ => ⟨fun q => absurd q c0, fun _ => ⟨fun q => absurd q c1, fun _ => ⟨fun _ => ⟨_, _, _, s2, _, _, _, s3, hQ _ _ C1.r⟩, fun q => absurd c2 q⟩⟩⟩⟩)
            · obtain ⟨mi1, ml1, H1, L1, e1, e2, hW1⟩ := hm2 vi vl mi ml H ⟨2, by decide, c2⟩
              refine ab_ex_q rfl rfl (fun Q hQ => hW1 Q (fun q => absurd q c0) (fun _ => ⟨fun q => absurd q c1, fun _ => ⟨fun _ => ?_, fun q => absurd c2 q⟩⟩))
              rw [L1.1]; exact hQ _ _ H1
          · by_cases c3 : y = 3
            · refine ⟨nI (pcn (b6 (oA tl (lawS ti tl (b3 (nI t))))) 64 + pcn (b6 (oB tl (lawS ti tl (b3 (nI t))))) 64), fun mi ml R => ?_, fun vi vl mi ml H => ?_⟩
              · obtain ⟨mi1, ml1, s1, C1, e1⟩ := hc2 mi ml R
                obtain ⟨r, s2, h2⟩ := s_lawBy (ro := ro) (d := 37) O C1.h (nI t)
                have s3 := s_openWorlds (ro := ro) (d := 36) (mi := mi1) (ml := ml1) r
                rw [h2, C1.1.qoA, C1.1.qoB] at s3
                exact ab_ex_q rfl rfl (fun Q hQ => vc_X11_draft_0 _ _ mi ml ⟨_, _, _, s1, fun q => absurd q hne, fun _ => ⟨fun q => absurd q c0, fun _ => ⟨fun q => absurd q c1, fun _ => ⟨fun q => absurd q c2, fun _ => ⟨fun _ => ⟨_, _, _, s2, _, _, _, s3, hQ _ _ (C1.op _ _).r⟩, fun q => absurd c3 q⟩⟩⟩⟩⟩)
              · obtain ⟨mi1, ml1, H1, L1, e1, e2, hW1⟩ := hm2 vi vl mi ml H ⟨3, by decide, c3⟩
                have s3 := s_worlds (ro := ro) (d := 37) (mi := mi1) (ml := ml1)
                rw [L1.2.1, L1.2.2.1] at s3
                exact ab_ex_q rfl rfl (fun Q hQ => hW1 Q (fun q => absurd q c0) (fun _ => ⟨fun q => absurd q c1, fun _ => ⟨fun q => absurd q c2, fun _ => ⟨_, _, _, s3, hQ _ _ H1⟩⟩⟩))
            · refine ⟨-1, fun mi ml R => ?_, fun vi vl mi ml H => ?_⟩
              · obtain ⟨mi1, ml1, s1, C1, e1⟩ := hc2 mi ml R
                exact ab_ex_q rfl rfl (fun Q hQ => vc_X11_draft_0 _ _ mi ml ⟨_, _, _, s1, fun q => absurd q hne, fun _ => ⟨fun q => absurd q c0, fun _ => ⟨fun q => absurd q c1, fun _ => ⟨fun q => absurd q c2, fun _ => ⟨fun q => absurd q c3, fun _ => hQ _ _ C1.r⟩⟩⟩⟩⟩)
              · refine ab_ex_q rfl rfl (fun Q hQ => vc_X12_draft_0 _ _ mi ml ⟨_, _, _, s_withinN _ 3 (by decide), ?_⟩)
                rw [pI_1 c]
                refine ⟨fun q => (by cases q), fun _ => ⟨_, _, _, s_withinN _ 3 (by decide), ?_⟩⟩
                rw [pI_0]
                · exact ⟨fun _ => hQ _ _ (H.t 0), fun q => absurd rfl q⟩
                · rintro ⟨k, hk, e⟩
                  match k, hk with
                  | 0, _ => exact c0 e
                  | 1, _ => exact c1 e
                  | 2, _ => exact c2 e
                  | 3, _ => exact c3 e
  · refine ⟨-1, fun mi ml R => ?_, fun vi vl mi ml H => ?_⟩
    · rcases c_draft (ro := ro) O x R with ⟨wt, hw, e, _⟩ | ⟨_, s1⟩
      · exact absurd ⟨wt, hw, e⟩ c
      · exact ab_ex_q rfl rfl (fun Q hQ => vc_X11_draft_0 _ _ mi ml ⟨_, _, _, s1, fun _ => hQ _ _ R, fun q => absurd rfl q⟩)
    · refine ab_ex_q rfl rfl (fun Q hQ => vc_X12_draft_0 _ _ mi ml ⟨_, _, _, s_withinN _ 3 (by decide), ?_⟩)
      rw [pI_0 c]
      exact ⟨fun _ => hQ _ _ (H.t 0), fun q => absurd rfl q⟩)
theorem op_beside (x y : Int32) : OP ro 132 240 [.int x, .int y] := OPq (fun ti tl O OM => by
  by_cases c : (∃ wt, wt < 4 ∧ x = nI wt) ∧ (∃ wt, wt < 4 ∧ y = nI wt)
  · obtain ⟨cx, cy⟩ := c
    obtain ⟨a, ha, rfl⟩ := id cx
    obtain ⟨b, hb, rfl⟩ := id cy
    refine ⟨@ite _ (drf ti tl a = none ∨ drf ti tl b = none) (Classical.propDecidable _) (-1) (dI (drf ti tl a) &&& (dI (drf ti tl b) ^^^ (-1))), fun mi ml R => ?_, fun vi vl mi ml H => ?_⟩
    · obtain ⟨mi1, ml1, s1, C1, _⟩ := s_draftBy (ro := ro) (d := 19) O R.1 R.2 ha
      obtain ⟨mi2, ml2, s2, C2, _⟩ := s_draftBy (ro := ro) (d := 19) O C1.1 C1.r.2 hb
      refine ab_ex_q rfl rfl (fun Q hQ => vc_X11_beside_0 _ _ mi ml ⟨_, _, _, s1, _, _, _, s2, ?_⟩)
      rw [dI_m1, dI_m1]
      refine ⟨fun c1 => ?_, fun c1 => ⟨fun c2 => ?_, fun c2 => ?_⟩⟩
      · rw [if_pos (Or.inl c1)] at hQ; exact hQ _ _ C2.r
      · rw [if_pos (Or.inr c2)] at hQ; exact hQ _ _ C2.r
      · rw [if_neg (fun q => q.elim c1 c2)] at hQ; exact hQ _ _ C2.r
    · obtain ⟨mi1, ml1, s1, M1, D1⟩ := s_findDraft (ro := ro) (d := 33) O OM (H.t 0) ha
      obtain ⟨mi2, ml2, s2, M2, D2⟩ := s_findDraft (ro := ro) (d := 33) O OM M1.1 hb
      refine ab_ex_q rfl rfl (fun Q hQ => vc_X12_beside_0 _ _ mi ml ⟨_, _, _, s_withinN _ 3 (by decide), ?_⟩)
      rw [pI_1 cx]
      refine ⟨fun q => (by cases q), fun _ => ⟨_, _, _, s_withinN _ 3 (by decide), ?_⟩⟩
      rw [pI_1 cy]
      refine ⟨fun q => (by cases q), fun _ => ⟨_, _, s1, _, _, s2, ?_⟩⟩
      have e : ∀ {wt : Nat} {mi : cM1}, mdOK (wei ti tl wt) (nD ti tl) (drf ti tl wt) mi → mi 40 58 = dI (drf ti tl wt) ∧ (mi 40 58 < 0) = (drf ti tl wt = none) := fun {wt mi} D => by
        cases h : drf ti tl wt with
        | none =>
          rw [h] at D
          have D' : mi 40 58 = -1 := D
          exact ⟨D', by rw [D', m1_neg]; simp⟩
        | some t =>
          rw [h] at D
          have := (drf_lt h).2.1
          exact ⟨D.1, by rw [D.1, xl_0 (by omega)]; simp⟩
      rw [(e D1).2, (e D2).2, (e D1).1, (e D2).1]
      refine ⟨fun c1 => ?_, fun c1 => ⟨fun c2 => ?_, fun c2 => ?_⟩⟩
      · rw [if_pos (Or.inl c1)] at hQ; exact hQ _ _ M2.1
      · rw [if_pos (Or.inr c2)] at hQ; exact hQ _ _ M2.1
      · rw [if_neg (fun q => q.elim c1 c2)] at hQ; exact hQ _ _ M2.1
  · refine ⟨-1, fun mi ml R => ?_, fun vi vl mi ml H => ?_⟩
    · rcases c_draft (ro := ro) O x R with ⟨wt, hw, e, mi1, ml1, s1, C1, _⟩ | ⟨_, s1⟩
      · rcases c_draft (ro := ro) O y C1.r with ⟨wt2, hw2, e2, _⟩ | ⟨_, s2⟩
        · exact absurd ⟨⟨wt, hw, e⟩, ⟨wt2, hw2, e2⟩⟩ c
        · exact ab_ex_q rfl rfl (fun Q hQ => vc_X11_beside_0 _ _ mi ml ⟨_, _, _, s1, _, _, _, s2, fun _ => hQ _ _ C1.r, fun _ => ⟨fun _ => hQ _ _ C1.r, fun q => absurd rfl q⟩⟩)
      · rcases c_draft (ro := ro) O y R with ⟨wt2, hw2, e2, mi2, ml2, s2, C2, _⟩ | ⟨_, s2⟩
        · exact ab_ex_q rfl rfl (fun Q hQ => vc_X11_beside_0 _ _ mi ml ⟨_, _, _, s1, _, _, _, s2, fun _ => hQ _ _ C2.r, fun q => absurd rfl q⟩)
        · exact ab_ex_q rfl rfl (fun Q hQ => vc_X11_beside_0 _ _ mi ml ⟨_, _, _, s1, _, _, _, s2, fun _ => hQ _ _ R, fun q => absurd rfl q⟩)
    · refine ab_ex_q rfl rfl (fun Q hQ => vc_X12_beside_0 _ _ mi ml ⟨_, _, _, s_withinN _ 3 (by decide), ?_⟩)
      rw [pI_e0]
      refine ⟨fun _ => hQ _ _ (H.t 0), fun c1 => ⟨_, _, _, s_withinN _ 3 (by decide), ?_⟩⟩
      rw [pI_e0]
      exact ⟨fun _ => hQ _ _ (H.t 0), fun c2 => absurd ⟨Classical.not_not.1 c1, Classical.not_not.1 c2⟩ c⟩)
end Q3
