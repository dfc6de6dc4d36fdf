/-! Questions: why, cases, blamed. -/
section Q4
variable {ro : ab_E} {d : Nat} {ti mi vi : cM1} {tl ml vl : cM2}
theorem gix_lt {w : Nat} (hw : w < nW ti) (hs : seenP ti w) : gix ti tl w < nG ti tl := by
  have hle := List.findIdx_le_length (xs := ldr ti tl w) (p := fun v => pB (sameP ti tl v w))
  unfold gix
  rcases Nat.lt_or_eq_of_le hle with h | h
  · exact (ldr_get ti tl (by omega) h).2
  · have hno : ∀ v ∈ ldr ti tl w, ¬ sameP ti tl v w := fun v hv => by
      rw [List.findIdx_eq_length] at h
      exact pB_f.1 (h v hv)
    have e : ldr ti tl (w + 1) = ldr ti tl w ++ [w] := by
      rw [ldr_s, pB_iff.2 ⟨hs, hno⟩]; rfl
    rw [h]
    exact (ldr_get ti tl (n := w + 1) (g := (ldr ti tl w).length) (by omega) (by rw [e]; simp)).2
theorem tb_nD {t h : Nat} (ht : t < 2 ^ nD ti tl) (hb : t.testBit h = true) : h < nD ti tl := by
  by_cases q : h < nD ti tl
  · exact q
  · rw [Nat.testBit_lt_two_pow (Nat.lt_of_lt_of_le ht (Nat.pow_le_pow_right (by decide) (by omega)))] at hb; cases hb
theorem ofG_m1 (O : okT ti) {w : Nat} (hw : w < nW ti) : (ofG ti tl w = -1) = ¬ seenP ti w := by
  have hW := O.W2
  have hG := nG_le ti tl
  by_cases c : seenP ti w
  · have := gix_lt (tl := tl) hw c
    rw [ofG_ldr c, xe_m1 (by omega)]; simp [c]
  · have : ofG ti tl w = -1 := by unfold ofG; rw [pB_f.2 c]; rfl
    rw [this]; simp [c]
noncomputable def whyR (ti : cM1) (tl : cM2) (t g : Nat) (z : Int32) : Int32 := if z = 0 then reaI ti tl t g (fI (rivP ti tl t g) 12) else if reaI ti tl t g (fI (rivP ti tl t g) 12) = 2 then fI (rivP ti tl t g) 12 else -1
set_option maxHeartbeats 1000000 in
theorem op_why (x y z : Int32) : OP ro 122 223 [.int x, .int y, .int z] := OPq (fun ti tl O OM => by
  have hW := O.W2
  have hG := nG_le ti tl
  have hD := nD_le ti tl
  by_cases c : (∃ w, w < nW ti ∧ x = nI w ∧ seenP ti w) ∧ (∃ k, k < 1 + 1 ∧ z = nI k) ∧ ∃ wt, wt < 4 ∧ y = nI wt ∧ ∃ t, drf ti tl wt = some t
  · obtain ⟨cx, cz, wt, hw4, rfl, t, hd⟩ := c
    obtain ⟨w, hw, rfl, hs⟩ := id cx
    have cy : ∃ v, v < 4 ∧ nI wt = nI v := ⟨wt, hw4, rfl⟩
    have czz := (rg (n := 1) (by decide)).2 cz
    have ht := drf_lt hd
    have hne : ¬ nI t = -1 := by rw [xe_m1 (by omega)]; exact id
    have hg := gix_lt (tl := tl) hw hs
    have eof : ofG ti tl w = nI (gix ti tl w) := ofG_ldr hs
    generalize gix ti tl w = g at *
    refine ⟨whyR ti tl t g z, fun mi ml R => ?_, fun vi vl mi ml H => ?_⟩
    · obtain ⟨mi1, ml1, s1, C1, _⟩ := s_draftBy (ro := ro) (d := 19) O R.1 R.2 hw4
      rw [hd] at s1
      obtain ⟨ml2, s2, C2⟩ := s_rivalIn (ro := ro) (d := 34) O C1 ht.1 hg
      obtain ⟨ml3, s3, C3⟩ := s_reasonAgainst (ro := ro) (d := 33) O C2 (s := t) (g := g) (by omega) (by omega) (fI (rivP ti tl t g) 12)
      have e26 : mi1 26 w = nI g := by rw [C1.2.1.2.1 w hw]; exact eof
      refine ab_ex_q rfl rfl (fun Q hQ => vc_X11_why_0 _ _ _ mi ml ⟨_, _, _, s1, fun q => absurd q hne, fun _ => ⟨_, _, _, s_isWishC O C1.1 _, ?_⟩⟩)
      rw [pI_1 ⟨w, hw, rfl⟩]
      refine ⟨fun q => (by cases q), fun _ => ?_⟩
      unfold whyR at hQ
      simp (disch := omega) only [e26, nI_ltI, nI_eq, nI_clamp, nI_1, xl_0, xg_0, xe_0, xe_m1, nI_0, xl_1, xl_2, xl_3, xl_4, xl_5, xl_6, xl_7, xl_8, xl_9, xl_10, xl_12, xl_20, xl_30, xl_32, xl_40, xl_41, xl_42, xl_48, xl_57, xl_59, xl_64, xl_97, xl_100, xl_122, xl_126, xl_128, xl_1000, xl_9999, xg_1, xg_2, xg_3, xg_4, xg_5, xg_6, xg_7, xg_8, xg_9, xg_10, xg_12, xg_20, xg_30, xg_32, xg_40, xg_41, xg_42, xg_48, xg_57, xg_59, xg_64, xg_97, xg_100, xg_122, xg_126, xg_128, xg_1000, xg_9999, xe_1, xe_2, xe_3, xe_4, xe_5, xe_6, xe_7, xe_8, xe_9, xe_10, xe_12, xe_20, xe_30, xe_32, xe_40, xe_41, xe_42, xe_48, xe_57, xe_59, xe_64, xe_97, xe_100, xe_122, xe_126, xe_128, xe_1000, xe_9999, true_implies, false_implies, not_true_eq_false, not_false_eq_true, and_true, true_and, forall_const, imp_self, lc_eq, implies_true, vin, Bool.true_eq_false, Bool.false_eq_true, false_and, and_false, or_false, false_or, or_true, true_or]
      refine ⟨fun q => absurd q czz.1, fun _ => ⟨fun q => absurd q czz.2, fun _ => ⟨_, _, _, s2, _, _, _, s3, fun c0 => ?_, fun c0 => ⟨fun c2 => ?_, fun c2 => ?_⟩⟩⟩⟩
      · rw [if_pos c0] at hQ; exact hQ _ _ C3.r
      · rw [if_neg c0, if_pos c2] at hQ; exact hQ _ _ C3.r
      · rw [if_neg c0, if_neg c2] at hQ; exact hQ _ _ C3.r
    · obtain ⟨mi1, ml1, s1, M1, D1⟩ := s_findDraft (ro := ro) (d := 33) O OM (H.t 0) hw4
      rw [hd] at D1
      have e58 : mi1 40 58 = nI t := D1.1
      have e68 : mi1 68 w = nI g := by rw [M1.2.2.1 w hw]; exact eof
      refine ab_ex_q rfl rfl (fun Q hQ => vc_X12_why_0 _ _ _ mi ml ⟨_, _, _, s_misSeen O OM (H.t 0) _, ?_⟩)
      rw [pI_1 cx]
      refine ⟨fun q => (by cases q), fun _ => ⟨_, _, _, s_withinN _ 3 (by decide), ?_⟩⟩
      rw [pI_1 cy]
      refine ⟨fun q => (by cases q), fun _ => ⟨_, _, _, s_withinN _ 1 (by decide), ?_⟩⟩
      rw [pI_1 cz]
      refine ⟨fun q => (by cases q), fun _ => ⟨_, _, s1, ?_⟩⟩
      simp (disch := omega) only [e58, e68, b3_a1, nI_ltI, nI_eq, nI_clamp, nI_1, xl_0, xg_0, xe_0, xe_m1, nI_0, xl_1, xl_2, xl_3, xl_4, xl_5, xl_6, xl_7, xl_8, xl_9, xl_10, xl_12, xl_20, xl_30, xl_32, xl_40, xl_41, xl_42, xl_48, xl_57, xl_59, xl_64, xl_97, xl_100, xl_122, xl_126, xl_128, xl_1000, xl_9999, xg_1, xg_2, xg_3, xg_4, xg_5, xg_6, xg_7, xg_8, xg_9, xg_10, xg_12, xg_20, xg_30, xg_32, xg_40, xg_41, xg_42, xg_48, xg_57, xg_59, xg_64, xg_97, xg_100, xg_122, xg_126, xg_128, xg_1000, xg_9999, xe_1, xe_2, xe_3, xe_4, xe_5, xe_6, xe_7, xe_8, xe_9, xe_10, xe_12, xe_20, xe_30, xe_32, xe_40, xe_41, xe_42, xe_48, xe_57, xe_59, xe_64, xe_97, xe_100, xe_122, xe_126, xe_128, xe_1000, xe_9999, true_implies, false_implies, not_true_eq_false, not_false_eq_true, and_true, true_and, forall_const, imp_self, lc_eq, implies_true, vin, Bool.true_eq_false, Bool.false_eq_true, false_and, and_false, or_false, false_or, or_true, true_or]
      rw [b3_nI (by omega)]
      unfold whyR reaI at hQ
      have e02 : ((0 : Int32) = 2) = False := eq_false (by decide)
      have e12 : ((1 : Int32) = 2) = False := eq_false (by decide)
      refine ⟨fun cb => ?_, fun cb => ?_⟩
      · simp only [cb, if_true, e02, if_false] at hQ
        refine ⟨fun c0 => ?_, fun c0 => ?_⟩
        · rw [if_pos c0] at hQ; exact hQ _ _ M1.1
        · rw [if_neg c0] at hQ; exact hQ _ _ M1.1
      · rw [if_neg cb] at hQ
        obtain ⟨mi2, ml2, s2, F2⟩ := s_goTogether (ro := ro) (d := 36) O OM M1 (nI (2 ^ g))
        rw [bit_n (by omega)]
        refine ⟨_, _, _, s2, ?_⟩
        rw [pI_e0]
        refine ⟨fun cg => ?_, fun cg => ?_⟩
        · have cg' : ¬ goN ti tl (2 ^ g) := cg
          simp only [cg', if_false, e12] at hQ
          refine ⟨fun c0 => ?_, fun c0 => ?_⟩
          · rw [if_pos c0] at hQ; exact hQ _ _ (M1.fr F2).1
          · rw [if_neg c0] at hQ; exact hQ _ _ (M1.fr F2).1
        · have cg' : goN ti tl (2 ^ g) := Classical.not_not.1 cg
          rw [if_pos cg'] at hQ
          have e22 : ((2 : Int32) = 2) = True := eq_true rfl
          have e32 : ((3 : Int32) = 2) = False := eq_false (by decide)
          have e42 : ((4 : Int32) = 2) = False := eq_false (by decide)
          have hgnb : t.testBit g = false := by simpa using cb
          -- the loop
          have loop : ∀ mi ml, mP ti tl vi vl mi ml → mi 40 58 = nI t → W_X12_why_102 (cs ro 39) ro Q (nI w) (nI wt) z (nI g) 0 mi ml := by
            intro mi ml M e58
            refine up0 (n := nG ti tl) (F := fun h => (∀ j, j < h → ¬ rivP ti tl t g j) → ∀ mi ml, mP ti tl vi vl mi ml → mi 40 58 = nI t → W_X12_why_102 (cs ro 39) ro Q (nI w) (nI wt) z (nI g) (nI h) mi ml) (fun h hh ih hno mi ml M e58 => ?_) (fun hno mi ml M e58 => ?_) (fun j hj => absurd hj (Nat.not_lt_zero j)) mi ml M e58
            · refine vc_X12_why_102 _ _ _ _ _ mi ml ?_
              have hn : ¬ rivP ti tl t g h → ∀ j, j < h + 1 → ¬ rivP ti tl t g j := fun q j hj => by
                rcases Nat.lt_or_eq_of_le (Nat.le_of_lt_succ hj) with e | e
                · exact hno j e
                · rw [e]; exact q
              simp (disch := omega) only [M.2.1, hh, e58, b3_a1, nI_ltI, nI_eq, nI_clamp, nI_1, xl_0, xg_0, xe_0, xe_m1, nI_0, xl_1, xl_2, xl_3, xl_4, xl_5, xl_6, xl_7, xl_8, xl_9, xl_10, xl_12, xl_20, xl_30, xl_32, xl_40, xl_41, xl_42, xl_48, xl_57, xl_59, xl_64, xl_97, xl_100, xl_122, xl_126, xl_128, xl_1000, xl_9999, xg_1, xg_2, xg_3, xg_4, xg_5, xg_6, xg_7, xg_8, xg_9, xg_10, xg_12, xg_20, xg_30, xg_32, xg_40, xg_41, xg_42, xg_48, xg_57, xg_59, xg_64, xg_97, xg_100, xg_122, xg_126, xg_128, xg_1000, xg_9999, xe_1, xe_2, xe_3, xe_4, xe_5, xe_6, xe_7, xe_8, xe_9, xe_10, xe_12, xe_20, xe_30, xe_32, xe_40, xe_41, xe_42, xe_48, xe_57, xe_59, xe_64, xe_97, xe_100, xe_122, xe_126, xe_128, xe_1000, xe_9999, true_implies, false_implies, not_true_eq_false, not_false_eq_true, and_true, true_and, forall_const, imp_self, lc_eq, implies_true, vin, Bool.true_eq_false, Bool.false_eq_true, false_and, and_false, or_false, false_or, or_true, true_or]
              rw [b3_nI (by omega)]
              refine ⟨fun c1 => ?_, fun c1 => ih (hn (fun q => c1 q.1)) mi ml M e58⟩
              obtain ⟨mi3, ml3, s3, F3⟩ := s_mclashOf (ro := ro) (d := 36) O OM M hg hh
              refine ⟨_, _, _, s3, fun c2 => ih (hn (fun q => q.2.2 c2)) _ _ (M.fr F3) ((F3.1 40 58 rfl).trans e58), fun c2 => ?_⟩
              have hne : ¬ h = g := fun e => by rw [e, hgnb] at c1; cases c1
              have hr : fI (rivP ti tl t g) 12 = nI h := fI_hit ⟨c1, hne, c2⟩ hno (by have := tb_nD ht.1 c1; omega) (by decide)
              have hm1 : ¬ nI h = -1 := by rw [xe_m1 (by omega)]; exact id
              rw [hr, if_neg hm1] at hQ
              simp only [e22, if_true] at hQ
              refine ⟨fun c0 => ?_, fun c0 => ?_⟩
              · rw [if_pos c0] at hQ; exact hQ _ _ (M.fr F3).1
              · rw [if_neg c0] at hQ; exact hQ _ _ (M.fr F3).1
            · refine vc_X12_why_102 _ _ _ _ _ mi ml ?_
              have hr : fI (rivP ti tl t g) 12 = -1 := fI_none (fun j _ q => hno j (by have := tb_nD ht.1 q.1; omega) q)
              rw [hr, if_pos rfl] at hQ
              obtain ⟨mi3, ml3, s3, F3⟩ := s_goTogether (ro := ro) (d := 36) O OM M (nI (t ||| 2 ^ g))
              simp (disch := omega) only [M.2.1, Nat.lt_irrefl, nI_ltI, nI_eq, nI_clamp, nI_1, xl_0, xg_0, xe_0, xe_m1, nI_0, xl_1, xl_2, xl_3, xl_4, xl_5, xl_6, xl_7, xl_8, xl_9, xl_10, xl_12, xl_20, xl_30, xl_32, xl_40, xl_41, xl_42, xl_48, xl_57, xl_59, xl_64, xl_97, xl_100, xl_122, xl_126, xl_128, xl_1000, xl_9999, xg_1, xg_2, xg_3, xg_4, xg_5, xg_6, xg_7, xg_8, xg_9, xg_10, xg_12, xg_20, xg_30, xg_32, xg_40, xg_41, xg_42, xg_48, xg_57, xg_59, xg_64, xg_97, xg_100, xg_122, xg_126, xg_128, xg_1000, xg_9999, xe_1, xe_2, xe_3, xe_4, xe_5, xe_6, xe_7, xe_8, xe_9, xe_10, xe_12, xe_20, xe_30, xe_32, xe_40, xe_41, xe_42, xe_48, xe_57, xe_59, xe_64, xe_97, xe_100, xe_122, xe_126, xe_128, xe_1000, xe_9999, true_implies, false_implies, not_true_eq_false, not_false_eq_true, and_true, true_and, forall_const, imp_self, lc_eq, implies_true, vin, Bool.true_eq_false, Bool.false_eq_true, false_and, and_false, or_false, false_or, or_true, true_or]
              rw [e58, or_bit (by omega) (by omega)]
              refine ⟨fun c1 => ?_, fun c1 => ⟨_, _, _, s3, ?_⟩⟩
              · have z0 : ¬ z = 0 := by rw [c1]; decide
                rw [if_neg z0] at hQ
                by_cases q : goN ti tl (t ||| 2 ^ g)
                · simp only [q, if_true, e42, if_false] at hQ; exact hQ _ _ M.1
                · simp only [q, if_false, e32] at hQ; exact hQ _ _ M.1
              · have z0 : z = 0 := by
                  obtain ⟨k, hk, e⟩ := cz
                  match k, hk with
                  | 0, _ => exact e
                  | 1, _ => exact absurd e c1
                rw [if_pos z0] at hQ
                rw [pI_e0]
                refine ⟨fun q => ?_, fun q => ?_⟩
                · have q' : ¬ goN ti tl (t ||| 2 ^ g) := q
                  rw [if_neg q'] at hQ; exact hQ _ _ (M.fr F3).1
                · have q' : goN ti tl (t ||| 2 ^ g) := Classical.not_not.1 q
                  rw [if_pos q'] at hQ; exact hQ _ _ (M.fr F3).1
          exact loop _ _ (M1.fr F2) ((F2.1 40 58 rfl).trans e58)
  · refine ⟨-1, fun mi ml R => ?_, fun vi vl mi ml H => ?_⟩
    · rcases c_draft (ro := ro) O y R with ⟨wt, hw, e, mi1, ml1, s1, C1, _⟩ | ⟨_, s1⟩
      · refine ab_ex_q rfl rfl (fun Q hQ => vc_X11_why_0 _ _ _ mi ml ⟨_, _, _, s1, fun _ => hQ _ _ C1.r, fun c1 => ⟨_, _, _, s_isWishC O C1.1 _, ?_⟩⟩)
        rw [pI_e0]
        refine ⟨fun _ => hQ _ _ C1.r, fun c2 => ?_⟩
        obtain ⟨w, hw2, rfl⟩ := Classical.not_not.1 c2
        rw [dI_m1] at c1
        simp (disch := omega) only [C1.2.1.2.1 w hw2, ofG_m1 O hw2, nI_ltI, nI_eq, nI_clamp, nI_1, xl_0, xg_0, xe_0, xe_m1, nI_0, xl_1, xl_2, xl_3, xl_4, xl_5, xl_6, xl_7, xl_8, xl_9, xl_10, xl_12, xl_20, xl_30, xl_32, xl_40, xl_41, xl_42, xl_48, xl_57, xl_59, xl_64, xl_97, xl_100, xl_122, xl_126, xl_128, xl_1000, xl_9999, xg_1, xg_2, xg_3, xg_4, xg_5, xg_6, xg_7, xg_8, xg_9, xg_10, xg_12, xg_20, xg_30, xg_32, xg_40, xg_41, xg_42, xg_48, xg_57, xg_59, xg_64, xg_97, xg_100, xg_122, xg_126, xg_128, xg_1000, xg_9999, xe_1, xe_2, xe_3, xe_4, xe_5, xe_6, xe_7, xe_8, xe_9, xe_10, xe_12, xe_20, xe_30, xe_32, xe_40, xe_41, xe_42, xe_48, xe_57, xe_59, xe_64, xe_97, xe_100, xe_122, xe_126, xe_128, xe_1000, xe_9999, true_implies, false_implies, not_true_eq_false, not_false_eq_true, and_true, true_and, forall_const, imp_self, lc_eq, implies_true, vin, Bool.true_eq_false, Bool.false_eq_true, false_and, and_false, or_false, false_or, or_true, true_or]
        refine ⟨fun _ => hQ _ _ C1.r, fun c3 => ⟨fun _ => hQ _ _ C1.r, fun c4 => ⟨fun _ => hQ _ _ C1.r, fun c5 => ?_⟩⟩⟩
        refine absurd ⟨⟨w, hw2, rfl, Classical.not_not.1 c3⟩, (rg (n := 1) (by decide)).1 ⟨c4, c5⟩, wt, hw, e, ?_⟩ c
        cases h : drf ti tl wt with
        | none => exact absurd h c1
        | some t => exact ⟨t, rfl⟩
      · exact ab_ex_q rfl rfl (fun Q hQ => vc_X11_why_0 _ _ _ mi ml ⟨_, _, _, s1, fun _ => hQ _ _ R, fun q => absurd rfl q⟩)
    · refine ab_ex_q rfl rfl (fun Q hQ => vc_X12_why_0 _ _ _ mi ml ⟨_, _, _, s_misSeen O OM (H.t 0) _, ?_⟩)
      rw [pI_e0]
      refine ⟨fun _ => hQ _ _ (H.t 0), fun c1 => ⟨_, _, _, s_withinN _ 3 (by decide), ?_⟩⟩
      rw [pI_e0]
      refine ⟨fun _ => hQ _ _ (H.t 0), fun c2 => ⟨_, _, _, s_withinN _ 1 (by decide), ?_⟩⟩
      rw [pI_e0]
      refine ⟨fun _ => hQ _ _ (H.t 0), fun c3 => ?_⟩
      obtain ⟨wt, hw, rfl⟩ := Classical.not_not.1 c2
      obtain ⟨mi1, ml1, s1, M1, D1⟩ := s_findDraft (ro := ro) (d := 33) O OM (H.t 0) (wt := wt) (by omega)
      have hno : drf ti tl wt = none := by
        cases h : drf ti tl wt with
        | none => rfl
        | some t => exact absurd ⟨Classical.not_not.1 c1, Classical.not_not.1 c3, wt, by omega, rfl, t, h⟩ c
      rw [hno] at D1
      have D2 : mi1 40 58 = -1 := D1
      refine ⟨_, _, s1, ?_⟩
      rw [D2, m1_neg]
      exact ⟨fun _ => hQ _ _ M1.1, fun q => absurd trivial q⟩)
theorem wB_at (O : okT ti) {k : Nat} (hk : k < nC ti) : ∃ x, x < 128 ∧ ti 19 k = nI x ∧ (ti 19 k).toNatClampNeg = x := by
  obtain ⟨⟨x, hx, e⟩, _⟩ := O.c k hk
  exact ⟨x, hx, e, by rw [e, nI_clamp (by omega)]⟩
set_option maxHeartbeats 1000000 in
theorem op_cases (x y : Int32) : OP ro 128 237 [.int x, .int y] := OPq (fun ti tl O OM => by
  have hC := O.C2
  by_cases c : (∃ k, k < 1 + 1 ∧ y = nI k) ∧ ∃ wt, wt < 4 ∧ x = nI wt ∧ ∃ t, drf ti tl wt = some t
  · obtain ⟨cy, wt, hw4, rfl, t, hd⟩ := c
    have cyy := (rg (n := 1) (by decide)).2 cy
    have ht := drf_lt hd
    have hgo : goeP ti tl (b3 (nI t)) := ht.2.2
    have hne : ¬ nI t = -1 := by rw [xe_m1 (by omega)]; exact id
    generalize hA : (fun p => decide (p < nL ti)) = A at *
    generalize hB : lawS ti tl (b3 (nI t)) = B at *
    refine ⟨if y = 0 then nI (pcn (fun k => pB (losP ti tl A B k)) (nC ti)) else nI (pcn (fun k => pB (losP ti tl B A k)) (nC ti)), fun mi ml R => ?_, fun vi vl mi ml H => ?_⟩
    · obtain ⟨mi1, ml1, s1, C1, _⟩ := s_draftBy (ro := ro) (d := 19) O R.1 R.2 hw4
      rw [hd] at s1
      obtain ⟨r1, s2, h2⟩ := s_wholeT (ro := ro) (d := 38) O C1.1
      obtain ⟨r2, s3, h3⟩ := s_lawBy (ro := ro) (d := 37) O C1.h (nI t)
      have e2 : b6 r1 = A := by rw [← hA]; exact funext h2
      rw [hB] at h3
      obtain ⟨ml4, s4, C4⟩ := s_casesLost (ro := ro) (d := 35) O C1 r1 r2
      obtain ⟨ml5, s5, C5⟩ := s_casesLost (ro := ro) (d := 35) O C1 r2 r1
      rw [e2, h3] at s4 s5
      refine ab_ex_q rfl rfl (fun Q hQ => vc_X11_cases_0 _ _ mi ml ⟨_, _, _, s1, fun q => absurd q hne, fun _ => ⟨fun q => absurd q cyy.1, fun _ => ⟨fun q => absurd q cyy.2, fun _ => ⟨fun c0 => ⟨_, _, _, s2, fun _ => ⟨_, _, _, s3, _, _, _, s4, ?_⟩, fun q => absurd c0 q⟩, fun c0 => ⟨_, _, _, s3, fun q => absurd q c0, fun _ => ⟨_, _, _, s2, _, _, _, s5, ?_⟩⟩⟩⟩⟩⟩)
      · rw [if_pos c0] at hQ; exact hQ _ _ C4.r
      · rw [if_neg c0] at hQ; exact hQ _ _ C5.r
    · obtain ⟨mi1, ml1, s1, M1, D1⟩ := s_findDraft (ro := ro) (d := 33) O OM (H.t 0) hw4
      rw [hd] at D1
      obtain ⟨mi2, ml2, s2, F2, _, a2, b2, _⟩ := s_buildsLaw (ro := ro) (d := 36) O OM M1.1
      have e58 : mi2 40 58 = nI t := (F2.1 40 58 rfl).trans D1.1
      obtain ⟨mi3, mi4, ml4, s3, s4, F4, L4⟩ := s_tg_builds (ro := ro) (d := 37) O OM (M1.fr F2) (nI t) hgo.1
      have M4 := (M1.fr F2).fr F4
      refine ab_ex_q rfl rfl (fun Q hQ => vc_X12_cases_0 _ _ mi ml ⟨_, _, _, s_withinN _ 3 (by decide), ?_⟩)
      rw [pI_1 ⟨wt, hw4, rfl⟩]
      refine ⟨fun q => (by cases q), fun _ => ⟨_, _, _, s_withinN _ 1 (by decide), ?_⟩⟩
      rw [pI_1 cy]
      refine ⟨fun q => (by cases q), fun _ => ⟨_, _, s1, ?_⟩⟩
      have D2 : mi1 40 58 = nI t := D1.1
      rw [D2, xl_0 (by omega)]
      refine ⟨fun q => absurd q id, fun _ => ⟨_, _, s2, ?_⟩⟩
      rw [e58]
      refine ⟨_, _, s3, _, _, s4, ?_⟩
      rw [hA] at a2 b2
      unfold lwS at L4
      rw [hB] at L4
      rw [a2, b2]
      have H4 := M4.1
      have step : ∀ (P : Nat → Prop), (∀ k, k < nC ti → ∀ is th : Bool, is = alw tl A (ti 19 k).toNatClampNeg → th = alw tl B (ti 19 k).toNatClampNeg → (P k ↔ csP ti k ∧ ¬ is = th ∧ (y = 0 → is = true) ∧ (¬ y = 0 → is = false))) → (∀ mi' ml', eqM ti tl vi vl mi' ml' → Q (some (.int (nI (pcn (fun k => pB (P k)) (nC ti))))) (ab_G mi' ml')) → W_X12_cases_72 (cs ro 39) ro Q (nI wt) y (oA tl A) (oB tl A) 0 0 mi4 ml4 := by
        intro P hP hQ
        refine up0 (n := nC ti) (F := fun i => W_X12_cases_72 (cs ro 39) ro Q (nI wt) y (oA tl A) (oB tl A) (nI (pcn (fun k => pB (P k)) i)) (nI i) mi4 ml4) (fun i hi ih => ?_) ?_
        · refine vc_X12_cases_72 _ _ _ _ _ _ mi4 ml4 ?_
          obtain ⟨w, hw, ew, ew2⟩ := wB_at O hi
          obtain ⟨q1, q2⟩ := OM.c i hi
          have hPi := hP i hi _ _ rfl rfl
          rw [ew2] at hPi
          have e81 : mi4 81 i = nI w := by rw [H4.e81, q1, ew]
          have e82 : mi4 82 i = ti 20 i := by rw [H4.e82, q2]
          have y1 : P i → W_X12_cases_72 (cs ro 39) ro Q (nI wt) y (oA tl A) (oB tl A) (nI (pcn (fun k => pB (P k)) i + 1)) (nI (i + 1)) mi4 ml4 := fun h => by
            rw [pcn_s1 (f := fun k => pB (P k)) (n := i) (pB_iff.2 h)]; exact ih
          have n1 : ¬ P i → W_X12_cases_72 (cs ro 39) ro Q (nI wt) y (oA tl A) (oB tl A) (nI (pcn (fun k => pB (P k)) i)) (nI (i + 1)) mi4 ml4 := fun h => by
            rw [pcn_s0 (f := fun k => pB (P k)) (n := i) (pB_f.2 h)]; exact ih
          simp (disch := omega) only [H4.s69, OM.s69, O.C, hi, e81, Int32.add_zero, nI_ltI, nI_eq, nI_clamp, nI_1, xl_0, xg_0, xe_0, xe_m1, nI_0, xl_1, xl_2, xl_3, xl_4, xl_5, xl_6, xl_7, xl_8, xl_9, xl_10, xl_12, xl_20, xl_30, xl_32, xl_40, xl_41, xl_42, xl_48, xl_57, xl_59, xl_64, xl_97, xl_100, xl_122, xl_126, xl_128, xl_1000, xl_9999, xg_1, xg_2, xg_3, xg_4, xg_5, xg_6, xg_7, xg_8, xg_9, xg_10, xg_12, xg_20, xg_30, xg_32, xg_40, xg_41, xg_42, xg_48, xg_57, xg_59, xg_64, xg_97, xg_100, xg_122, xg_126, xg_128, xg_1000, xg_9999, xe_1, xe_2, xe_3, xe_4, xe_5, xe_6, xe_7, xe_8, xe_9, xe_10, xe_12, xe_20, xe_30, xe_32, xe_40, xe_41, xe_42, xe_48, xe_57, xe_59, xe_64, xe_97, xe_100, xe_122, xe_126, xe_128, xe_1000, xe_9999, true_implies, false_implies, not_true_eq_false, not_false_eq_true, and_true, true_and, forall_const, imp_self, lc_eq, implies_true, vin, Bool.true_eq_false, Bool.false_eq_true, false_and, and_false, or_false, false_or, or_true, true_or]
          refine ⟨_, _, _, s_isIn _ _ hw, ?_⟩
          rw [L4.2.1, L4.2.2.1]
          simp (disch := omega) only [e81, nI_ltI, nI_eq, nI_clamp, nI_1, xl_0, xg_0, xe_0, xe_m1, nI_0, xl_1, xl_2, xl_3, xl_4, xl_5, xl_6, xl_7, xl_8, xl_9, xl_10, xl_12, xl_20, xl_30, xl_32, xl_40, xl_41, xl_42, xl_48, xl_57, xl_59, xl_64, xl_97, xl_100, xl_122, xl_126, xl_128, xl_1000, xl_9999, xg_1, xg_2, xg_3, xg_4, xg_5, xg_6, xg_7, xg_8, xg_9, xg_10, xg_12, xg_20, xg_30, xg_32, xg_40, xg_41, xg_42, xg_48, xg_57, xg_59, xg_64, xg_97, xg_100, xg_122, xg_126, xg_128, xg_1000, xg_9999, xe_1, xe_2, xe_3, xe_4, xe_5, xe_6, xe_7, xe_8, xe_9, xe_10, xe_12, xe_20, xe_30, xe_32, xe_40, xe_41, xe_42, xe_48, xe_57, xe_59, xe_64, xe_97, xe_100, xe_122, xe_126, xe_128, xe_1000, xe_9999, true_implies, false_implies, not_true_eq_false, not_false_eq_true, and_true, true_and, forall_const, imp_self, lc_eq, implies_true, vin, Bool.true_eq_false, Bool.false_eq_true, false_and, and_false, or_false, false_or, or_true, true_or]
          refine ⟨_, _, _, s_isIn _ _ hw, ?_⟩
          refine ⟨_, _, _, s_mview O OM H4, ?_⟩
          rw [e82]
          have eb : ∀ a b : Bool, (bI a = bI b) = (a = b) := fun a b => by cases a <;> cases b <;> simp [bI]
          have eb1 : ∀ a : Bool, (bI a = 1) = (a = true) := fun a => by cases a <;> simp [bI]
          rw [eb, eb1, bI_0]
          refine ⟨fun c1 => n1 (fun q => (hPi.1 q).1 c1), fun c1 => ⟨fun c2 => n1 (fun q => (hPi.1 q).2.1 c2), fun c2 => ⟨fun c3 => ⟨fun c4 => y1 (hPi.2 ⟨c1, c2, fun _ => c4, fun q => absurd c3 q⟩), fun c4 => n1 (fun q => c4 ((hPi.1 q).2.2.1 c3))⟩, fun c3 => ⟨fun c4 => y1 (hPi.2 ⟨c1, c2, fun q => absurd q c3, fun _ => c4⟩), fun c4 => n1 (fun q => c4 ((hPi.1 q).2.2.2 c3))⟩⟩⟩⟩
        · refine vc_X12_cases_72 _ _ _ _ _ _ mi4 ml4 ?_
          simp (disch := omega) only [H4.s69, OM.s69, O.C, Nat.lt_irrefl, nI_ltI, nI_eq, nI_clamp, nI_1, xl_0, xg_0, xe_0, xe_m1, nI_0, xl_1, xl_2, xl_3, xl_4, xl_5, xl_6, xl_7, xl_8, xl_9, xl_10, xl_12, xl_20, xl_30, xl_32, xl_40, xl_41, xl_42, xl_48, xl_57, xl_59, xl_64, xl_97, xl_100, xl_122, xl_126, xl_128, xl_1000, xl_9999, xg_1, xg_2, xg_3, xg_4, xg_5, xg_6, xg_7, xg_8, xg_9, xg_10, xg_12, xg_20, xg_30, xg_32, xg_40, xg_41, xg_42, xg_48, xg_57, xg_59, xg_64, xg_97, xg_100, xg_122, xg_126, xg_128, xg_1000, xg_9999, xe_1, xe_2, xe_3, xe_4, xe_5, xe_6, xe_7, xe_8, xe_9, xe_10, xe_12, xe_20, xe_30, xe_32, xe_40, xe_41, xe_42, xe_48, xe_57, xe_59, xe_64, xe_97, xe_100, xe_122, xe_126, xe_128, xe_1000, xe_9999, true_implies, false_implies, not_true_eq_false, not_false_eq_true, and_true, true_and, forall_const, imp_self, lc_eq, implies_true, vin, Bool.true_eq_false, Bool.false_eq_true, false_and, and_false, or_false, false_or, or_true, true_or]
          exact hQ _ _ H4
      by_cases c0 : y = 0
      · rw [if_pos c0] at hQ
        refine step _ (fun k hk is th h1 h2 => ?_) hQ
        unfold losP
        rw [← h1, ← h2]
        cases is <;> cases th <;> simp [c0]
      · rw [if_neg c0] at hQ
        refine step _ (fun k hk is th h1 h2 => ?_) hQ
        unfold losP
        rw [← h1, ← h2]
        cases is <;> cases th <;> simp [c0]
  · refine ⟨-1, fun mi ml R => ?_, fun vi vl mi ml H => ?_⟩
    · rcases c_draft (ro := ro) O x R with ⟨wt, hw, e, mi1, ml1, s1, C1, _⟩ | ⟨_, s1⟩
      · refine ab_ex_q rfl rfl (fun Q hQ => vc_X11_cases_0 _ _ mi ml ⟨_, _, _, s1, fun _ => hQ _ _ C1.r, fun c1 => ⟨fun _ => hQ _ _ C1.r, fun c2 => ⟨fun _ => hQ _ _ C1.r, fun c3 => ?_⟩⟩⟩)
        rw [dI_m1] at c1
        refine absurd ⟨(rg (n := 1) (by decide)).1 ⟨c2, c3⟩, wt, hw, e, ?_⟩ c
        cases h : drf ti tl wt with
        | none => exact absurd h c1
        | some t => exact ⟨t, rfl⟩
      · exact ab_ex_q rfl rfl (fun Q hQ => vc_X11_cases_0 _ _ mi ml ⟨_, _, _, s1, fun _ => hQ _ _ R, fun q => absurd rfl q⟩)
    · refine ab_ex_q rfl rfl (fun Q hQ => vc_X12_cases_0 _ _ mi ml ⟨_, _, _, s_withinN _ 3 (by decide), ?_⟩)
      rw [pI_e0]
      refine ⟨fun _ => hQ _ _ (H.t 0), fun c2 => ⟨_, _, _, s_withinN _ 1 (by decide), ?_⟩⟩
      rw [pI_e0]
      refine ⟨fun _ => hQ _ _ (H.t 0), fun c3 => ?_⟩
      obtain ⟨wt, hw, rfl⟩ := Classical.not_not.1 c2
      obtain ⟨mi1, ml1, s1, M1, D1⟩ := s_findDraft (ro := ro) (d := 33) O OM (H.t 0) (wt := wt) (by omega)
      have hno : drf ti tl wt = none := by
        cases h : drf ti tl wt with
        | none => rfl
        | some t => exact absurd ⟨Classical.not_not.1 c3, wt, by omega, rfl, t, h⟩ c
      rw [hno] at D1
      have D2 : mi1 40 58 = -1 := D1
      refine ⟨_, _, s1, ?_⟩
      rw [D2, m1_neg]
      exact ⟨fun _ => hQ _ _ M1.1, fun q => absurd trivial q⟩)
noncomputable def blaP (ti : cM1) (tl : cM2) (t w : Nat) (is : Bool) (g : Nat) : Prop := t.testBit g = true ∧ alw tl (lawS ti tl (fun i => b3 (nI t) i && !decide (i = g))) w = is
theorem minus_b {t g : Nat} (hg : g < 32) : b3 (nI t &&& (((1 : Int32) <<< (nI g &&& 31)) ^^^ (-1))) = fun i => b3 (nI t) i && !decide (i = g) := by
  funext i
  by_cases h : i < 32
  · rw [b3_and, b3_not _ h, b3_bit hg]
  · rw [b3_ge _ (by omega), b3_ge _ (by omega)]; rfl
theorem minus_e {t g : Nat} (ht : t < 2 ^ 30) (hg : g < 32) : ((nI t &&& (((1 : Int32) <<< (nI g &&& 31)) ^^^ (-1))) = nI t) = (t.testBit g = false) := by
  apply propext
  constructor
  · intro h
    have q : b3 (nI t &&& (((1 : Int32) <<< (nI g &&& 31)) ^^^ (-1))) g = b3 (nI t) g := by rw [h]
    rw [minus_b hg, b3_nI (by omega)] at q
    simpa using q
  · intro h
    apply b3_ext
    intro i _
    rw [minus_b hg]
    show (b3 (nI t) i && !decide (i = g)) = b3 (nI t) i
    by_cases e : i = g
    · rw [e, b3_nI (by omega), h]; rfl
    · simp [e]
set_option maxHeartbeats 1000000 in
theorem op_blamed (x y : Int32) : OP ro 129 239 [.int x, .int y] := OPq (fun ti tl O OM => by
  have hC := O.C2
  have hW := O.W2
  have hG := nG_le ti tl
  have hD := nD_le ti tl
  by_cases c : (∃ k, k < nC ti ∧ x = nI k ∧ csP ti k) ∧ ∃ wt, wt < 4 ∧ y = nI wt ∧ ∃ t, drf ti tl wt = some t
  · obtain ⟨⟨k, hk, rfl, hcs⟩, wt, hw4, rfl, t, hd⟩ := c
    have ht := drf_lt hd
    have hgo : goeP ti tl (b3 (nI t)) := ht.2.2
    have hne : ¬ nI t = -1 := by rw [xe_m1 (by omega)]; exact id
    obtain ⟨w, hw, ew, ew2⟩ := wB_at O hk
    obtain ⟨q81, q82⟩ := OM.c k hk
    have eb : ∀ a b : Bool, (bI a = bI b) = (a = b) := fun a b => by cases a <;> cases b <;> simp [bI]
    generalize hA : (fun p => decide (p < nL ti)) = A at *
    refine ⟨if alw tl (lawS ti tl (b3 (nI t))) w = alw tl A w then -1 else fI (blaP ti tl t w (alw tl A w)) 12, fun mi ml R => ?_, fun vi vl mi ml H => ?_⟩
    · obtain ⟨mi1, ml1, s1, C1, _⟩ := s_draftBy (ro := ro) (d := 19) O R.1 R.2 hw4
      rw [hd] at s1
      obtain ⟨r1, s2, h2⟩ := s_wholeT (ro := ro) (d := 38) O C1.1
      have e2 : b6 r1 = A := by rw [← hA]; exact funext h2
      obtain ⟨ml3, s3, C3⟩ := s_allowsT (ro := ro) (d := 36) C1 r1 hw
      obtain ⟨r2, s4, h4⟩ := s_lawBy (ro := ro) (d := 37) O C3.h (nI t)
      obtain ⟨ml5, s5, C5⟩ := s_allowsT (ro := ro) (d := 36) C3 r2 hw
      rw [e2] at s3
      rw [h4] at s5
      have e : cSeen mi1 = cSeen ti := C1.1.qcSeen
      refine ab_ex_q rfl rfl (fun Q hQ => vc_X11_blamed_0 _ _ mi ml ⟨_, _, _, s1, fun q => absurd q hne, fun _ => ?_⟩)
      have hcs' : ¬ cSeen ti < ti 20 k := hcs
      simp (disch := omega) only [C1.1.e182, O.C, hk, C1.1.e20, nI_ltI, nI_eq, nI_clamp, nI_1, xl_0, xg_0, xe_0, xe_m1, nI_0, xl_1, xl_2, xl_3, xl_4, xl_5, xl_6, xl_7, xl_8, xl_9, xl_10, xl_12, xl_20, xl_30, xl_32, xl_40, xl_41, xl_42, xl_48, xl_57, xl_59, xl_64, xl_97, xl_100, xl_122, xl_126, xl_128, xl_1000, xl_9999, xg_1, xg_2, xg_3, xg_4, xg_5, xg_6, xg_7, xg_8, xg_9, xg_10, xg_12, xg_20, xg_30, xg_32, xg_40, xg_41, xg_42, xg_48, xg_57, xg_59, xg_64, xg_97, xg_100, xg_122, xg_126, xg_128, xg_1000, xg_9999, xe_1, xe_2, xe_3, xe_4, xe_5, xe_6, xe_7, xe_8, xe_9, xe_10, xe_12, xe_20, xe_30, xe_32, xe_40, xe_41, xe_42, xe_48, xe_57, xe_59, xe_64, xe_97, xe_100, xe_122, xe_126, xe_128, xe_1000, xe_9999, true_implies, false_implies, not_true_eq_false, not_false_eq_true, and_true, true_and, forall_const, imp_self, lc_eq, implies_true, vin, Bool.true_eq_false, Bool.false_eq_true, false_and, and_false, or_false, false_or, or_true, true_or]
      refine ⟨_, _, _, e ▸ s_seen, fun q => absurd q hcs', fun _ => ⟨_, _, _, s2, ?_⟩⟩
      rw [C1.1.e19, ew]
      refine ⟨_, _, _, s3, _, _, _, s4, _, _, _, s5, ?_⟩
      rw [eb]
      refine ⟨fun c1 => ?_, fun c1 => ?_⟩
      · rw [if_pos c1] at hQ; exact hQ _ _ C5.r
      · rw [if_neg c1] at hQ
        refine up0 (n := 12) (F := fun g => (∀ j, j < g → ¬ blaP ti tl t w (alw tl A w) j) → ∀ ml, cP ti tl mi1 ml → W_X11_blamed_103 (cs ro 39) ro Q (nI k) (nI wt) (nI t) (nI w) (bI (alw tl A w)) (nI g) mi1 ml) (fun g hg ih hno ml C => ?_) (fun hno ml C => ?_) (fun j hj => absurd hj (Nat.not_lt_zero j)) ml5 C5
        · refine vc_X11_blamed_103 _ _ _ _ _ _ mi1 ml ?_
          have hn : ¬ blaP ti tl t w (alw tl A w) g → ∀ j, j < g + 1 → ¬ blaP ti tl t w (alw tl A w) j := fun q j hj => by
            rcases Nat.lt_or_eq_of_le (Nat.le_of_lt_succ hj) with e | e
            · exact hno j e
            · rw [e]; exact q
          obtain ⟨r6, s6, h6⟩ := s_lawBy (ro := ro) (d := 37) O C.h (nI t &&& (((1 : Int32) <<< (nI g &&& 31)) ^^^ (-1)))
          obtain ⟨ml7, s7, C7⟩ := s_allowsT (ro := ro) (d := 36) C r6 hw
          rw [h6, minus_b (by omega)] at s7
          rw [minus_e (by omega) (by omega)]
          simp (disch := omega) only [hg, nI_ltI, nI_eq, nI_clamp, nI_1, xl_0, xg_0, xe_0, xe_m1, nI_0, xl_1, xl_2, xl_3, xl_4, xl_5, xl_6, xl_7, xl_8, xl_9, xl_10, xl_12, xl_20, xl_30, xl_32, xl_40, xl_41, xl_42, xl_48, xl_57, xl_59, xl_64, xl_97, xl_100, xl_122, xl_126, xl_128, xl_1000, xl_9999, xg_1, xg_2, xg_3, xg_4, xg_5, xg_6, xg_7, xg_8, xg_9, xg_10, xg_12, xg_20, xg_30, xg_32, xg_40, xg_41, xg_42, xg_48, xg_57, xg_59, xg_64, xg_97, xg_100, xg_122, xg_126, xg_128, xg_1000, xg_9999, xe_1, xe_2, xe_3, xe_4, xe_5, xe_6, xe_7, xe_8, xe_9, xe_10, xe_12, xe_20, xe_30, xe_32, xe_40, xe_41, xe_42, xe_48, xe_57, xe_59, xe_64, xe_97, xe_100, xe_122, xe_126, xe_128, xe_1000, xe_9999, true_implies, false_implies, not_true_eq_false, not_false_eq_true, and_true, true_and, forall_const, imp_self, lc_eq, implies_true, vin, Bool.true_eq_false, Bool.false_eq_true, false_and, and_false, or_false, false_or, or_true, true_or]
          refine ⟨fun c2 => ih (hn (fun q => by rw [blaP, c2] at q; cases q.1)) ml C, fun c2 => ⟨_, _, _, s6, _, _, _, s7, ?_⟩⟩
          rw [eb]
          refine ⟨fun c3 => ?_, fun c3 => ih (hn (fun q => c3 q.2)) ml7 C7⟩
          rw [fI_hit (P := blaP ti tl t w (alw tl A w)) ⟨by simpa using c2, c3⟩ hno hg (by decide)] at hQ
          exact hQ _ _ C7.r
        · refine vc_X11_blamed_103 _ _ _ _ _ _ mi1 ml ?_
          simp (disch := omega) only [Nat.lt_irrefl, nI_ltI, nI_eq, nI_clamp, nI_1, xl_0, xg_0, xe_0, xe_m1, nI_0, xl_1, xl_2, xl_3, xl_4, xl_5, xl_6, xl_7, xl_8, xl_9, xl_10, xl_12, xl_20, xl_30, xl_32, xl_40, xl_41, xl_42, xl_48, xl_57, xl_59, xl_64, xl_97, xl_100, xl_122, xl_126, xl_128, xl_1000, xl_9999, xg_1, xg_2, xg_3, xg_4, xg_5, xg_6, xg_7, xg_8, xg_9, xg_10, xg_12, xg_20, xg_30, xg_32, xg_40, xg_41, xg_42, xg_48, xg_57, xg_59, xg_64, xg_97, xg_100, xg_122, xg_126, xg_128, xg_1000, xg_9999, xe_1, xe_2, xe_3, xe_4, xe_5, xe_6, xe_7, xe_8, xe_9, xe_10, xe_12, xe_20, xe_30, xe_32, xe_40, xe_41, xe_42, xe_48, xe_57, xe_59, xe_64, xe_97, xe_100, xe_122, xe_126, xe_128, xe_1000, xe_9999, true_implies, false_implies, not_true_eq_false, not_false_eq_true, and_true, true_and, forall_const, imp_self, lc_eq, implies_true, vin, Bool.true_eq_false, Bool.false_eq_true, false_and, and_false, or_false, false_or, or_true, true_or]
          rw [fI_none hno] at hQ
          exact hQ _ _ C.r
    · obtain ⟨mi1, ml1, s1, M1, D1⟩ := s_findDraft (ro := ro) (d := 33) O OM (H.t 0) hw4
      rw [hd] at D1
      have D2 : mi1 40 58 = nI t := D1.1
      obtain ⟨mi2, ml2, s2, F2, _, a2, b2, _⟩ := s_buildsLaw (ro := ro) (d := 36) O OM M1.1
      have e58 : mi2 40 58 = nI t := (F2.1 40 58 rfl).trans D2
      have M2 := M1.fr F2
      obtain ⟨mi3, mi4, ml4, s3, s4, F4, L4⟩ := s_tg_builds (ro := ro) (d := 37) O OM M2 (nI t) hgo.1
      have M4 := M2.fr F4
      rw [hA] at a2 b2
      refine ab_ex_q rfl rfl (fun Q hQ => vc_X12_blamed_0 _ _ mi ml ?_)
      have hcs' : ¬ cSeen ti < ti 20 k := hcs
      have e69 : mi 40 69 = nI (nC ti) := by rw [H.s69, OM.s69, O.C]
      have e82 : mi 82 k = ti 20 k := by rw [H.e82, q82]
      simp (disch := omega) only [e69, hk, e82, nI_ltI, nI_eq, nI_clamp, nI_1, xl_0, xg_0, xe_0, xe_m1, nI_0, xl_1, xl_2, xl_3, xl_4, xl_5, xl_6, xl_7, xl_8, xl_9, xl_10, xl_12, xl_20, xl_30, xl_32, xl_40, xl_41, xl_42, xl_48, xl_57, xl_59, xl_64, xl_97, xl_100, xl_122, xl_126, xl_128, xl_1000, xl_9999, xg_1, xg_2, xg_3, xg_4, xg_5, xg_6, xg_7, xg_8, xg_9, xg_10, xg_12, xg_20, xg_30, xg_32, xg_40, xg_41, xg_42, xg_48, xg_57, xg_59, xg_64, xg_97, xg_100, xg_122, xg_126, xg_128, xg_1000, xg_9999, xe_1, xe_2, xe_3, xe_4, xe_5, xe_6, xe_7, xe_8, xe_9, xe_10, xe_12, xe_20, xe_30, xe_32, xe_40, xe_41, xe_42, xe_48, xe_57, xe_59, xe_64, xe_97, xe_100, xe_122, xe_126, xe_128, xe_1000, xe_9999, true_implies, false_implies, not_true_eq_false, not_false_eq_true, and_true, true_and, forall_const, imp_self, lc_eq, implies_true, vin, Bool.true_eq_false, Bool.false_eq_true, false_and, and_false, or_false, false_or, or_true, true_or]
      refine ⟨_, _, _, s_mview O OM (H.t 0), fun q => absurd q hcs', fun _ => ⟨_, _, _, s_withinN _ 3 (by decide), ?_⟩⟩
      rw [pI_1 ⟨wt, hw4, rfl⟩]
      refine ⟨fun q => (by cases q), fun _ => ⟨_, _, s1, ?_⟩⟩
      rw [D2, xl_0 (by omega)]
      refine ⟨fun q => absurd q id, fun _ => ⟨_, _, s2, ?_⟩⟩
      have e812 : mi2 81 k = nI w := by rw [M2.1.e81, q81, ew]
      have e814 : mi4 81 k = nI w := by rw [M4.1.e81, q81, ew]
      rw [a2, b2, e812]
      refine ⟨_, _, _, s_isIn _ _ hw, ?_⟩
      rw [e58]
      refine ⟨_, _, s3, _, _, s4, ?_⟩
      rw [L4.2.1, L4.2.2.1, e814]
      refine ⟨_, _, _, s_isIn _ _ hw, ?_⟩
      have ea : ∀ P, wB (oA tl P) (oB tl P) w = alw tl P w := fun P => rfl
      rw [eb, ea, ea]
      refine ⟨fun c1 => ?_, fun c1 => ?_⟩
      · rw [if_pos c1] at hQ; exact hQ _ _ M4.1
      · rw [if_neg c1] at hQ
        refine up0 (n := nG ti tl) (F := fun g => (∀ j, j < g → ¬ blaP ti tl t w (alw tl A w) j) → ∀ mi ml, mP ti tl vi vl mi ml → mi 40 58 = nI t → W_X12_blamed_115 (cs ro 39) ro Q (nI k) (nI wt) (bI (alw tl A w)) (nI g) mi ml) (fun g hg ih hno mi ml M e58 => ?_) (fun hno mi ml M e58 => ?_) (fun j hj => absurd hj (Nat.not_lt_zero j)) mi4 ml4 M4 ((F4.1 40 58 rfl).trans e58)
        · refine vc_X12_blamed_115 _ _ _ _ mi ml ?_
          have hn : ¬ blaP ti tl t w (alw tl A w) g → ∀ j, j < g + 1 → ¬ blaP ti tl t w (alw tl A w) j := fun q j hj => by
            rcases Nat.lt_or_eq_of_le (Nat.le_of_lt_succ hj) with e | e
            · exact hno j e
            · rw [e]; exact q
          simp (disch := omega) only [M.2.1, hg, e58, b3_a1, nI_ltI, nI_eq, nI_clamp, nI_1, xl_0, xg_0, xe_0, xe_m1, nI_0, xl_1, xl_2, xl_3, xl_4, xl_5, xl_6, xl_7, xl_8, xl_9, xl_10, xl_12, xl_20, xl_30, xl_32, xl_40, xl_41, xl_42, xl_48, xl_57, xl_59, xl_64, xl_97, xl_100, xl_122, xl_126, xl_128, xl_1000, xl_9999, xg_1, xg_2, xg_3, xg_4, xg_5, xg_6, xg_7, xg_8, xg_9, xg_10, xg_12, xg_20, xg_30, xg_32, xg_40, xg_41, xg_42, xg_48, xg_57, xg_59, xg_64, xg_97, xg_100, xg_122, xg_126, xg_128, xg_1000, xg_9999, xe_1, xe_2, xe_3, xe_4, xe_5, xe_6, xe_7, xe_8, xe_9, xe_10, xe_12, xe_20, xe_30, xe_32, xe_40, xe_41, xe_42, xe_48, xe_57, xe_59, xe_64, xe_97, xe_100, xe_122, xe_126, xe_128, xe_1000, xe_9999, true_implies, false_implies, not_true_eq_false, not_false_eq_true, and_true, true_and, forall_const, imp_self, lc_eq, implies_true, vin, Bool.true_eq_false, Bool.false_eq_true, false_and, and_false, or_false, false_or, or_true, true_or]
          rw [b3_nI (by omega)]
          refine ⟨fun c2 => ?_, fun c2 => ih (hn (fun q => c2 q.1)) mi ml M e58⟩
          have hsub : ntS ti tl (b3 (nI t &&& (((1 : Int32) <<< (nI g &&& 31)) ^^^ (-1)))) := by
            rw [minus_b (by omega)]
            exact nt_sub (fun i h => by rw [Bool.and_eq_true] at h; exact h.1) hgo.1
          obtain ⟨mi5, mi6, ml6, s5, s6, F6, L6⟩ := s_tg_builds (ro := ro) (d := 37) O OM M (nI t &&& (((1 : Int32) <<< (nI g &&& 31)) ^^^ (-1))) hsub
          have M6 := M.fr F6
          have e816 : mi6 81 k = nI w := by rw [M6.1.e81, q81, ew]
          refine ⟨_, _, s5, _, _, s6, ?_⟩
          rw [minus_b (by omega)] at L6
          rw [L6.2.1, L6.2.2.1, e816]
          refine ⟨_, _, _, s_isIn _ _ hw, ?_⟩
          rw [eb, ea]
          refine ⟨fun c3 => ?_, fun c3 => ih (hn (fun q => c3 q.2)) mi6 ml6 M6 ((F6.1 40 58 rfl).trans e58)⟩
          rw [fI_hit (P := blaP ti tl t w (alw tl A w)) ⟨c2, c3⟩ hno (by have := tb_nD ht.1 c2; omega) (by decide)] at hQ
          exact hQ _ _ M6.1
        · refine vc_X12_blamed_115 _ _ _ _ mi ml ?_
          simp (disch := omega) only [M.2.1, Nat.lt_irrefl, nI_ltI, nI_eq, nI_clamp, nI_1, xl_0, xg_0, xe_0, xe_m1, nI_0, xl_1, xl_2, xl_3, xl_4, xl_5, xl_6, xl_7, xl_8, xl_9, xl_10, xl_12, xl_20, xl_30, xl_32, xl_40, xl_41, xl_42, xl_48, xl_57, xl_59, xl_64, xl_97, xl_100, xl_122, xl_126, xl_128, xl_1000, xl_9999, xg_1, xg_2, xg_3, xg_4, xg_5, xg_6, xg_7, xg_8, xg_9, xg_10, xg_12, xg_20, xg_30, xg_32, xg_40, xg_41, xg_42, xg_48, xg_57, xg_59, xg_64, xg_97, xg_100, xg_122, xg_126, xg_128, xg_1000, xg_9999, xe_1, xe_2, xe_3, xe_4, xe_5, xe_6, xe_7, xe_8, xe_9, xe_10, xe_12, xe_20, xe_30, xe_32, xe_40, xe_41, xe_42, xe_48, xe_57, xe_59, xe_64, xe_97, xe_100, xe_122, xe_126, xe_128, xe_1000, xe_9999, true_implies, false_implies, not_true_eq_false, not_false_eq_true, and_true, true_and, forall_const, imp_self, lc_eq, implies_true, vin, Bool.true_eq_false, Bool.false_eq_true, false_and, and_false, or_false, false_or, or_true, true_or]
          rw [fI_none (fun j _ q => hno j (by have := tb_nD ht.1 q.1; omega) q)] at hQ
          exact hQ _ _ M.1
  · refine ⟨-1, fun mi ml R => ?_, fun vi vl mi ml H => ?_⟩
    · rcases c_draft (ro := ro) O y R with ⟨wt, hw, e, mi1, ml1, s1, C1, _⟩ | ⟨_, s1⟩
      · have ec : cSeen mi1 = cSeen ti := C1.1.qcSeen
        refine ab_ex_q rfl rfl (fun Q hQ => vc_X11_blamed_0 _ _ mi ml ⟨_, _, _, s1, fun _ => hQ _ _ C1.r, fun c1 => ?_⟩)
        rw [C1.1.e182, O.C]
        refine ⟨fun _ => hQ _ _ C1.r, fun c2 => ⟨fun c3 => ?_, fun _ => hQ _ _ C1.r⟩⟩
        obtain ⟨k, hk, rfl⟩ := (rg2 (by omega)).1 ⟨c2, c3⟩
        rw [dI_m1] at c1
        simp (disch := omega) only [C1.1.e20, nI_ltI, nI_eq, nI_clamp, nI_1, xl_0, xg_0, xe_0, xe_m1, nI_0, xl_1, xl_2, xl_3, xl_4, xl_5, xl_6, xl_7, xl_8, xl_9, xl_10, xl_12, xl_20, xl_30, xl_32, xl_40, xl_41, xl_42, xl_48, xl_57, xl_59, xl_64, xl_97, xl_100, xl_122, xl_126, xl_128, xl_1000, xl_9999, xg_1, xg_2, xg_3, xg_4, xg_5, xg_6, xg_7, xg_8, xg_9, xg_10, xg_12, xg_20, xg_30, xg_32, xg_40, xg_41, xg_42, xg_48, xg_57, xg_59, xg_64, xg_97, xg_100, xg_122, xg_126, xg_128, xg_1000, xg_9999, xe_1, xe_2, xe_3, xe_4, xe_5, xe_6, xe_7, xe_8, xe_9, xe_10, xe_12, xe_20, xe_30, xe_32, xe_40, xe_41, xe_42, xe_48, xe_57, xe_59, xe_64, xe_97, xe_100, xe_122, xe_126, xe_128, xe_1000, xe_9999, true_implies, false_implies, not_true_eq_false, not_false_eq_true, and_true, true_and, forall_const, imp_self, lc_eq, implies_true, vin, Bool.true_eq_false, Bool.false_eq_true, false_and, and_false, or_false, false_or, or_true, true_or]
        refine ⟨_, _, _, ec ▸ s_seen, fun _ => hQ _ _ C1.r, fun c4 => ?_⟩
        refine absurd ⟨⟨k, hk, rfl, c4⟩, wt, hw, e, ?_⟩ c
        cases h : drf ti tl wt with
        | none => exact absurd h c1
        | some t => exact ⟨t, rfl⟩
      · exact ab_ex_q rfl rfl (fun Q hQ => vc_X11_blamed_0 _ _ mi ml ⟨_, _, _, s1, fun _ => hQ _ _ R, fun q => absurd rfl q⟩)
    · refine ab_ex_q rfl rfl (fun Q hQ => vc_X12_blamed_0 _ _ mi ml ?_)
      rw [H.s69, OM.s69, O.C]
      refine ⟨fun _ => hQ _ _ (H.t 0), fun c2 => ⟨fun c3 => ?_, fun _ => hQ _ _ (H.t 0)⟩⟩
      obtain ⟨k, hk, rfl⟩ := (rg2 (by omega)).1 ⟨c2, c3⟩
      have e82 : mi 82 k = ti 20 k := by rw [H.e82, (OM.c k hk).2]
      simp (disch := omega) only [e82, nI_ltI, nI_eq, nI_clamp, nI_1, xl_0, xg_0, xe_0, xe_m1, nI_0, xl_1, xl_2, xl_3, xl_4, xl_5, xl_6, xl_7, xl_8, xl_9, xl_10, xl_12, xl_20, xl_30, xl_32, xl_40, xl_41, xl_42, xl_48, xl_57, xl_59, xl_64, xl_97, xl_100, xl_122, xl_126, xl_128, xl_1000, xl_9999, xg_1, xg_2, xg_3, xg_4, xg_5, xg_6, xg_7, xg_8, xg_9, xg_10, xg_12, xg_20, xg_30, xg_32, xg_40, xg_41, xg_42, xg_48, xg_57, xg_59, xg_64, xg_97, xg_100, xg_122, xg_126, xg_128, xg_1000, xg_9999, xe_1, xe_2, xe_3, xe_4, xe_5, xe_6, xe_7, xe_8, xe_9, xe_10, xe_12, xe_20, xe_30, xe_32, xe_40, xe_41, xe_42, xe_48, xe_57, xe_59, xe_64, xe_97, xe_100, xe_122, xe_126, xe_128, xe_1000, xe_9999, true_implies, false_implies, not_true_eq_false, not_false_eq_true, and_true, true_and, forall_const, imp_self, lc_eq, implies_true, vin, Bool.true_eq_false, Bool.false_eq_true, false_and, and_false, or_false, false_or, or_true, true_or]
      refine ⟨_, _, _, s_mview O OM (H.t 0), fun _ => hQ _ _ (H.t 0), fun c4 => ⟨_, _, _, s_withinN _ 3 (by decide), ?_⟩⟩
      rw [pI_e0]
      refine ⟨fun _ => hQ _ _ (H.t 0), fun c5 => ?_⟩
      obtain ⟨wt, hw, rfl⟩ := Classical.not_not.1 c5
      obtain ⟨mi1, ml1, s1, M1, D1⟩ := s_findDraft (ro := ro) (d := 33) O OM (H.t 0) (wt := wt) (by omega)
      have hno : drf ti tl wt = none := by
        cases h : drf ti tl wt with
        | none => rfl
        | some t => exact absurd ⟨⟨k, hk, rfl, c4⟩, wt, by omega, rfl, t, h⟩ c
      rw [hno] at D1
      have D2 : mi1 40 58 = -1 := D1
      refine ⟨_, _, s1, ?_⟩
      rw [D2, m1_neg]
      exact ⟨fun _ => hQ _ _ M1.1, fun q => absurd trivial q⟩)
end Q4
