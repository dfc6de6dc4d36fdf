/-! The reference's cutting. -/
def cuA (k j : Nat) : Bool := Nat.beq k 42 || Nat.beq k 43 || (Nat.beq k 40 && (Nat.beq j 2 || Nat.beq j 3 || Nat.beq j 7 || Nat.beq j 8))
def cuB (k j : Nat) : Bool := Nat.beq k 44
def CU (T : tSt) (mi0 : cM1) (ml0 : cM2) (j : Nat) (mi : cM1) (ml : cM2) : Prop := mi 40 3 = nI T.1 ∧ mi 40 2 = 0 ∧ (∀ i, i < T.1 → mi 41 i = nI (T.2 i)) ∧ (∀ i, i < j → ¬ tK T (pos T i) = 0 ∧ row T i mi ml) ∧ fr cuA cuB mi0 ml0 mi ml
section MC
variable {ro : ab_E} {d : Nat} {mi0 mi : cM1} {ml0 ml : cM2} {T : tSt}
theorem s_let {c : Nat} (hc : c < 128) : cS ro (d + 1) 148 [.int (nI c)] mi ml (some (.int (pI (97 ≤ c ∧ c ≤ 122)))) mi ml := by
  refine ab_sem_q rfl rfl (fun Q hQ => vc_X12_isLetter_0 (nI c) mi ml ?_)
  simp (disch := omega) only [nI_ltI, nI_eq, nI_clamp, nI_1, xl_0, xg_0, xe_0, xe_m1, nI_0, xl_1, xl_2, xl_3, xl_4, xl_5, xl_6, xl_7, xl_8, xl_9, xl_10, xl_12, xl_20, xl_30, xl_32, xl_40, xl_41, xl_42, xl_48, xl_57, xl_59, xl_64, xl_97, xl_100, xl_122, xl_126, xl_128, xl_1000, xl_9999, xg_1, xg_2, xg_3, xg_4, xg_5, xg_6, xg_7, xg_8, xg_9, xg_10, xg_12, xg_20, xg_30, xg_32, xg_40, xg_41, xg_42, xg_48, xg_57, xg_59, xg_64, xg_97, xg_100, xg_122, xg_126, xg_128, xg_1000, xg_9999, xe_1, xe_2, xe_3, xe_4, xe_5, xe_6, xe_7, xe_8, xe_9, xe_10, xe_12, xe_20, xe_30, xe_32, xe_40, xe_41, xe_42, xe_48, xe_57, xe_59, xe_64, xe_97, xe_100, xe_122, xe_126, xe_128, xe_1000, xe_9999, true_implies, false_implies, not_true_eq_false, not_false_eq_true, and_true, true_and, forall_const, imp_self, lc_eq, implies_true, vin, Bool.true_eq_false, Bool.false_eq_true, false_and, and_false, or_false, false_or, or_true, true_or]
  refine ⟨fun c1 => ?_, fun c1 => ⟨fun c2 => ?_, fun c2 => ?_⟩⟩
  · rw [pI_0 (by omega)] at hQ; exact hQ
  · rw [pI_0 (by omega)] at hQ; exact hQ
  · rw [pI_1 (by omega)] at hQ; exact hQ
theorem s_dgt {c : Nat} (hc : c < 128) : cS ro (d + 1) 149 [.int (nI c)] mi ml (some (.int (pI (48 ≤ c ∧ c ≤ 57)))) mi ml := by
  refine ab_sem_q rfl rfl (fun Q hQ => vc_X12_isDigit_0 (nI c) mi ml ?_)
  simp (disch := omega) only [nI_ltI, nI_eq, nI_clamp, nI_1, xl_0, xg_0, xe_0, xe_m1, nI_0, xl_1, xl_2, xl_3, xl_4, xl_5, xl_6, xl_7, xl_8, xl_9, xl_10, xl_12, xl_20, xl_30, xl_32, xl_40, xl_41, xl_42, xl_48, xl_57, xl_59, xl_64, xl_97, xl_100, xl_122, xl_126, xl_128, xl_1000, xl_9999, xg_1, xg_2, xg_3, xg_4, xg_5, xg_6, xg_7, xg_8, xg_9, xg_10, xg_12, xg_20, xg_30, xg_32, xg_40, xg_41, xg_42, xg_48, xg_57, xg_59, xg_64, xg_97, xg_100, xg_122, xg_126, xg_128, xg_1000, xg_9999, xe_1, xe_2, xe_3, xe_4, xe_5, xe_6, xe_7, xe_8, xe_9, xe_10, xe_12, xe_20, xe_30, xe_32, xe_40, xe_41, xe_42, xe_48, xe_57, xe_59, xe_64, xe_97, xe_100, xe_122, xe_126, xe_128, xe_1000, xe_9999, true_implies, false_implies, not_true_eq_false, not_false_eq_true, and_true, true_and, forall_const, imp_self, lc_eq, implies_true, vin, Bool.true_eq_false, Bool.false_eq_true, false_and, and_false, or_false, false_or, or_true, true_or]
  refine ⟨fun c1 => ?_, fun c1 => ⟨fun c2 => ?_, fun c2 => ?_⟩⟩
  · rw [pI_0 (by omega)] at hQ; exact hQ
  · rw [pI_0 (by omega)] at hQ; exact hQ
  · rw [pI_1 (by omega)] at hQ; exact hQ
theorem s_sgn {c : Nat} (hc : c < 128) : cS ro (d + 1) 151 [.int (nI c)] mi ml (some (.int (pI (c = 40 ∨ c = 41 ∨ c = 59)))) mi ml := by
  refine ab_sem_q rfl rfl (fun Q hQ => vc_X12_isSignOf_0 (nI c) mi ml ?_)
  simp (disch := omega) only [nI_ltI, nI_eq, nI_clamp, nI_1, xl_0, xg_0, xe_0, xe_m1, nI_0, xl_1, xl_2, xl_3, xl_4, xl_5, xl_6, xl_7, xl_8, xl_9, xl_10, xl_12, xl_20, xl_30, xl_32, xl_40, xl_41, xl_42, xl_48, xl_57, xl_59, xl_64, xl_97, xl_100, xl_122, xl_126, xl_128, xl_1000, xl_9999, xg_1, xg_2, xg_3, xg_4, xg_5, xg_6, xg_7, xg_8, xg_9, xg_10, xg_12, xg_20, xg_30, xg_32, xg_40, xg_41, xg_42, xg_48, xg_57, xg_59, xg_64, xg_97, xg_100, xg_122, xg_126, xg_128, xg_1000, xg_9999, xe_1, xe_2, xe_3, xe_4, xe_5, xe_6, xe_7, xe_8, xe_9, xe_10, xe_12, xe_20, xe_30, xe_32, xe_40, xe_41, xe_42, xe_48, xe_57, xe_59, xe_64, xe_97, xe_100, xe_122, xe_126, xe_128, xe_1000, xe_9999, true_implies, false_implies, not_true_eq_false, not_false_eq_true, and_true, true_and, forall_const, imp_self, lc_eq, implies_true, vin, Bool.true_eq_false, Bool.false_eq_true, false_and, and_false, or_false, false_or, or_true, true_or]
  refine ⟨fun c1 => ?_, fun c1 => ⟨fun c2 => ?_, fun c2 => ⟨fun c3 => ?_, fun c3 => ?_⟩⟩⟩
  · rw [pI_1 (by omega)] at hQ; exact hQ
  · rw [pI_1 (by omega)] at hQ; exact hQ
  · rw [pI_1 (by omega)] at hQ; exact hQ
  · rw [pI_0 (by omega)] at hQ; exact hQ
theorem s_rank {c : Nat} (h : 97 ≤ c ∧ c ≤ 122) : cS ro (d + 2) 150 [.int (nI c)] mi ml (some (.int (nI (c - 96)))) mi ml := by
  refine ab_sem_q rfl rfl (fun Q hQ => vc_X12_rank_0 (nI c) mi ml ⟨_, _, _, s_let (by omega), ?_⟩)
  have e : nI c - 96 = nI (c - 96) := nI_m (b := 96) (by omega)
  rw [e]
  exact ⟨fun q => absurd h (pI_e0.1 q), fun _ => hQ⟩
theorem CU.put {j : Nat} {v : Int32} {x : Int64} (h : CU T mi0 ml0 j mi ml) (hk : ¬ tK T (pos T j) = 0) (hv : v = nI (srO (tK T (pos T j)))) (x2 : tK T (pos T j) = 2 → x = hL (hN T (tS T (pos T j)) (tE T (pos T j) - tS T (pos T j)))) (x3 : tK T (pos T j) = 3 → x = hL (nmv T (pos T j))) (x4 : 4 ≤ tK T (pos T j) → tK T (pos T j) ≤ 6 → x = hL (T.2 (tS T (pos T j)))) : CU T mi0 ml0 (j + 1) (ab_ui (ab_ui mi 43 j (nI (tS T (pos T j)))) 42 j v) (ab_ul ml 44 j x) := by
  have u : ∀ i, ab_ui (ab_ui mi 43 j (nI (tS T (pos T j)))) 42 j v 43 i = if i = j then nI (tS T (pos T j)) else mi 43 i := fun i => by
    rw [ui_app, if_neg (by decide), ui_app, if_pos rfl]
  have u2 : ∀ i, ab_ui (ab_ui mi 43 j (nI (tS T (pos T j)))) 42 j v 42 i = if i = j then v else mi 42 i := fun i => by
    have e : ab_ui mi 43 j (nI (tS T (pos T j))) 42 i = mi 42 i := by rw [ui_app, if_neg (by decide)]
    rw [ui_app, if_pos rfl, e]
  have u3 : ∀ i, ab_ul ml 44 j x 44 i = if i = j then x else ml 44 i := fun i => by rw [ul_app, if_pos rfl]
  refine ⟨?_, ?_, fun i hi => ?_, fun i hi => ?_, (h.2.2.2.2.ui _ (by unfold cuA; rfl)).ui _ (by unfold cuA; rfl) |>.ul _ rfl⟩
  · rw [ui_app, if_neg (by decide), ui_app, if_neg (by decide)]; exact h.1
  · rw [ui_app, if_neg (by decide), ui_app, if_neg (by decide)]; exact h.2.1
  · rw [ui_app, if_neg (by decide), ui_app, if_neg (by decide)]; exact h.2.2.1 i hi
  · unfold row
    rw [u i, u2 i, u3 i]
    by_cases q : i = j
    · rw [if_pos q, if_pos q, if_pos q, q]
      exact ⟨hk, rfl, hv, x2, x3, x4⟩
    · rw [if_neg q, if_neg q, if_neg q]
      exact h.2.2.2.1 i (by omega)
theorem tK_of {p : Nat} (k : Nat) (h : kd T (tS T p) = k) (hn : ¬ ((k = 2 ∧ 8 < tE T p - tS T p) ∨ (k = 3 ∧ 3 < tE T p - tS T p))) : tK T p = k := by
  unfold tK; rw [h, if_neg hn]
theorem tK_bad {p : Nat} (k : Nat) (h : kd T (tS T p) = k) (hn : (k = 2 ∧ 8 < tE T p - tS T p) ∨ (k = 3 ∧ 3 < tE T p - tS T p)) : tK T p = 7 := by
  unfold tK; rw [h, if_pos hn]
theorem kd_c {q : Nat} (h : q < T.1) : kd T q = srt (T.2 q) := by unfold kd; rw [if_pos h]
theorem srt_2 {c : Nat} : srt c = 2 ↔ (97 ≤ c ∧ c ≤ 122) := by unfold srt; (repeat' split) <;> omega
theorem srt_3 {c : Nat} : srt c = 3 ↔ (48 ≤ c ∧ c ≤ 57) := by unfold srt; (repeat' split) <;> omega
theorem srt_1 {c : Nat} : srt c = 1 ↔ (c = 10 ∨ c = 32) := by unfold srt; (repeat' split) <;> omega
theorem srt_456 {c : Nat} : (4 ≤ srt c ∧ srt c ≤ 6) ↔ (c = 40 ∨ c = 41 ∨ c = 59) := by unfold srt; (repeat' split) <;> omega
theorem srt_7 (c : Nat) : 1 ≤ srt c ∧ srt c ≤ 7 := srt_ge c
set_option maxHeartbeats 2000000 in
theorem s_cutAll (Z : tOK T) (C : mT T mi) : ∃ mi' ml', cS ro (d + 3) 152 [.ref 40] mi ml none mi' ml' ∧ MT T mi' ml' ∧ mi' 40 7 = 0 ∧ mi' 40 8 = 0 ∧ mi' 40 2 = 0 ∧ fr cuA cuB mi ml mi' ml' := by
  have hn := Z.1
  have c128 : ∀ q, q < T.1 → T.2 q < 128 := fun q hq => by have := Z.2 q hq; omega
  refine ab_ex_q rfl rfl (fun Q hQ => vc_X12_cutAll_0 mi ml ?_)
  -- all
  have all : ∀ m j q mi1 ml1, T.1 < q + m → q ≤ T.1 → j ≤ q → pos T j ≤ q → tS T q = tS T (pos T j) → CU T mi ml j mi1 ml1 → W_X12_cutAll_17 (cs ro (d + 2)) ro Q (nI j) (nI q) mi1 ml1 := by
    intro m
    induction m with
    | zero => intro j q mi1 ml1 h1 h2; omega
    | succ m ih =>
      intro j q mi1 ml1 hm hq hj hpj hS U
      refine vc_X12_cutAll_17 _ _ mi1 ml1 ?_
      have e1 : nI q + 1 = nI (q + 1) := nI_1 q
      have e1j : nI j + 1 = nI (j + 1) := nI_1 j
      rw [U.1, e1, e1j, nI_clamp (by omega), nI_clamp (by omega), nI_ltI (by omega) (by omega)]
      have in2 : vp_in (nI j) 1002 := in_of (by omega) (by decide)
      refine ⟨fun hlt => ?_, fun hlt => ?_⟩
      · have ec : mi1 41 q = nI (T.2 q) := U.2.2.1 q hlt
        have hc := c128 q hlt
        have kc := kd_c hlt
        rw [ec]
        refine ⟨in_of (by omega) (by decide), ?_⟩
        rw [xe_10 (by omega), xe_32 (by omega)]
        have blank : kd T q = 1 → W_X12_cutAll_17 (cs ro (d + 2)) ro Q (nI j) (nI (q + 1)) mi1 ml1 := fun k1 => ih j (q + 1) mi1 ml1 (by omega) (by omega) (by omega) (by omega) (by rw [← hS, tS_rn, tS_rn, ← rn_y Z (by decide) k1]) U
        refine ⟨fun c => blank (by rw [kc]; exact srt_1.2 (Or.inl c)), fun c10 => ⟨fun c => blank (by rw [kc]; exact srt_1.2 (Or.inr c)), fun c32 => ?_⟩⟩
        have k1 : ¬ kd T q = 1 := fun h => by rw [kc] at h; have := srt_1.1 h; omega
        have sq : tS T (pos T j) = q := by rw [← hS, tS_rn, rn_n k1]
        have hk0 : ¬ tK T (pos T j) = 0 := fun h => by
          have k0 : kd T q = 0 := by
            unfold tK at h; rw [sq] at h
            by_cases g : (kd T q = 2 ∧ 8 < tE T (pos T j) - q) ∨ (kd T q = 3 ∧ 3 < tE T (pos T j) - q)
            · rw [if_pos g] at h; omega
            · rw [if_neg g] at h; exact h
          have := kd_0.1 k0; omega
        have gt : q < tE T (pos T j) := by have := tE_gt Z (p := pos T j) (by rw [sq]; exact hlt); omega
        have le := tE_le T (pos_le T j)
        -- behind the token
        have next : ∀ (v : Int32) (x : Int64), v = nI (srO (tK T (pos T j))) → (tK T (pos T j) = 2 → x = hL (hN T (tS T (pos T j)) (tE T (pos T j) - tS T (pos T j)))) → (tK T (pos T j) = 3 → x = hL (nmv T (pos T j))) → (4 ≤ tK T (pos T j) → tK T (pos T j) ≤ 6 → x = hL (T.2 (tS T (pos T j)))) → W_X12_cutAll_17 (cs ro (d + 2)) ro Q (nI (j + 1)) (nI (tE T (pos T j))) (ab_ui (ab_ui mi1 43 j (nI q)) 42 j v) (ab_ul ml1 44 j x) := fun v x hv x2 x3 x4 => by
          have := U.put hk0 hv x2 x3 x4
          rw [sq] at this
          exact ih (j + 1) _ _ _ (by omega) le (by omega) (Nat.le_refl _) rfl this
        have g3 : ab_ui mi1 43 j (nI q) 40 3 = nI T.1 := by rw [ui_app, if_neg (by decide)]; exact U.1
        have g41 : ab_ui mi1 43 j (nI q) 41 = mi1 41 := by funext i; rw [ui_app, if_neg (by decide)]
        refine ⟨in2, _, _, _, s_let hc, ⟨fun cl => ⟨_, _, _, s_dgt hc, ⟨fun cd => ⟨_, _, _, s_sgn hc, ?_⟩, fun cd => ?_⟩⟩, fun cl => ?_⟩⟩
        · have n2 : ¬ kd T q = 2 := fun h => pI_e0.1 cl (srt_2.1 (by rw [← kc]; exact h))
          have n3 : ¬ kd T q = 3 := fun h => pI_e0.1 cd (srt_3.1 (by rw [← kc]; exact h))
          have hE : tE T (pos T j) = q + 1 := by
            unfold tE; rw [sq, if_neg (by omega), if_pos hlt]
          have hK : tK T (pos T j) = kd T q := tK_of _ (by rw [sq]) (by omega)
          have k7 := srt_7 (T.2 q)
          rw [← kc] at k7
          rw [← hE, hL_i _ hc]
          refine ⟨fun cs => ⟨in2, in2, next 4 _ ?_ (fun h => absurd h (by omega)) (fun h => absurd h (by omega)) (fun _ _ => by rw [sq])⟩, fun cs => ⟨in2, in2, next 3 _ ?_ (fun h => absurd h (by omega)) (fun h => absurd h (by omega)) (fun _ _ => by rw [sq])⟩⟩
          · have : kd T q = 7 := by
              have h := pI_e0.1 cs
              by_cases g : kd T q ≤ 6
              · exact absurd (srt_456.1 (by rw [← kc]; omega)) h
              · omega
            rw [hK, this]; rfl
          · have h : 4 ≤ kd T q ∧ kd T q ≤ 6 := by rw [kc]; exact srt_456.2 (Classical.not_not.1 (fun g => cs (pI_e0.2 g)))
            rw [hK]; unfold srO
            rw [if_neg (by omega), if_neg (by omega), if_neg (by omega), if_neg (by omega)]; rfl
        · -- digits
          have k3 : kd T q = 3 := by rw [kc]; exact srt_3.2 (Classical.not_not.1 (fun g => cd (pI_e0.2 g)))
          have hE : tE T (pos T j) = rn T 3 q := by unfold tE; rw [sq, k3, if_pos (Or.inr rfl)]
          have run : ∀ w r, T.1 < r + w → r ≤ T.1 → q ≤ r → rn T 3 q = rn T 3 r → W_X12_cutAll_159 (cs ro (d + 2)) ro Q (nI j) (nI r) (nI (T.2 q)) (nI q) (hL (vlu T q (min (r - q) 3))) (ab_ui mi1 43 j (nI q)) ml1 := by
            intro w
            induction w with
            | zero => intro r h1 h2; omega
            | succ w ih2 =>
              intro r hw hr hqr hrn
              refine vc_X12_cutAll_159 _ _ _ _ _ _ ml1 ?_
              have er : nI r + 1 = nI (r + 1) := nI_1 r
              rw [g3, g41, er, e1j, nI_clamp (by omega), nI_clamp (by omega), nI_m hqr, xg_3 (by omega), xl_3 (by omega), nI_ltI (by omega) (by omega)]
              have done : ¬ kd T r = 3 → ((3 < (r - q)) → (vp_in (nI j) 1002 ∧ (vp_in (nI j) 1002 ∧ (W_X12_cutAll_17 (cs ro (d + 2)) ro Q (nI (j + 1)) (nI r) (ab_ui (ab_ui mi1 43 j (nI q)) 42 j 4) (ab_ul ml1 44 j (hL (vlu T q (min (r - q) 3)))))))) ∧ (¬ (3 < (r - q)) → (vp_in (nI j) 1002 ∧ (vp_in (nI j) 1002 ∧ (W_X12_cutAll_17 (cs ro (d + 2)) ro Q (nI (j + 1)) (nI r) (ab_ui (ab_ui mi1 43 j (nI q)) 42 j 2) (ab_ul ml1 44 j (hL (vlu T q (min (r - q) 3)))))))) := fun nr => by
                have eE : tE T (pos T j) = r := by rw [hE, hrn, rn_n nr]
                refine ⟨fun c3 => ⟨in2, in2, ?_⟩, fun c3 => ⟨in2, in2, ?_⟩⟩
                · have hK : tK T (pos T j) = 7 := tK_bad 3 (by rw [sq]; exact k3) (by rw [sq, eE]; omega)
                  have := next 4 (hL (vlu T q (min (r - q) 3))) (by rw [hK]; rfl) (fun h => absurd h (by omega)) (fun h => absurd h (by omega)) (fun _ h => absurd h (by omega))
                  rw [eE] at this; exact this
                · have hK : tK T (pos T j) = 3 := tK_of 3 (by rw [sq]; exact k3) (by rw [sq, eE]; omega)
                  have := next 2 (hL (vlu T q (min (r - q) 3))) (by rw [hK]; rfl) (fun h => absurd h (by omega)) (fun _ => by unfold nmv; rw [sq, eE, Nat.min_eq_left (by omega)]) (fun h => absurd h (by omega))
                  rw [eE] at this; exact this
              refine ⟨fun rl => ?_, fun rl => done (fun h => by have := kd_lt h (by decide); omega)⟩
              have ec2 : mi1 41 r = nI (T.2 r) := U.2.2.1 r rl
              have hc2 := c128 r rl
              have kc2 := kd_c rl
              rw [ec2]
              refine ⟨in_of (by omega) (by decide), _, _, _, s_dgt hc2, ⟨fun g => done (fun h => pI_e0.1 g (srt_3.1 (by rw [← kc2]; exact h))), fun g => ?_⟩⟩
              have dr : 48 ≤ T.2 r ∧ T.2 r ≤ 57 := Classical.not_not.1 (fun h => g (pI_e0.2 h))
              have kr : kd T r = 3 := by rw [kc2]; exact srt_3.2 dr
              have nx := ih2 (r + 1) (by omega) (by omega) (by omega) (by rw [hrn, rn_y Z (by decide) kr])
              rw [g41, ec2]
              refine ⟨fun c3 => ⟨in_of (by omega) (by decide), ?_⟩, fun c3 => ?_⟩
              · have em : min (r + 1 - q) 3 = (r - q) + 1 := by omega
                have em2 : min (r - q) 3 = r - q := by omega
                have ev : (10 : Int64) * hL (vlu T q (min (r - q) 3)) + (nI (T.2 r)).toInt64 - 48 = hL (vlu T q (min (r + 1 - q) 3)) := by
                  rw [em, em2, hL_i _ hc2]
                  show hL 10 * hL (vlu T q (r - q)) + hL (T.2 r) - 48 = hL (vlu T q (r - q) * 10 + (T.2 (q + (r - q)) - 48))
                  have : q + (r - q) = r := by omega
                  rw [this, hL_mul, hL_add, hL_s (by omega)]
                  congr 1; omega
                rw [ev]; exact nx
              · have em : min (r + 1 - q) 3 = min (r - q) 3 := by omega
                rw [em] at nx; exact nx
          have r0 := run 1001 q (by omega) (by omega) (Nat.le_refl _) rfl
          rw [Nat.sub_self] at r0
          exact r0
        · -- letters
          have k2 : kd T q = 2 := by rw [kc]; exact srt_2.2 (Classical.not_not.1 (fun g => cl (pI_e0.2 g)))
          have hE : tE T (pos T j) = rn T 2 q := by unfold tE; rw [sq, k2, if_pos (Or.inl rfl)]
          have run : ∀ w r, T.1 < r + w → r ≤ T.1 → q ≤ r → rn T 2 q = rn T 2 r → W_X12_cutAll_70 (cs ro (d + 2)) ro Q (nI j) (nI r) (nI (T.2 q)) (nI q) (hL (hN T q (min (r - q) 8))) (ab_ui mi1 43 j (nI q)) ml1 := by
            intro w
            induction w with
            | zero => intro r h1 h2; omega
            | succ w ih2 =>
              intro r hw hr hqr hrn
              refine vc_X12_cutAll_70 _ _ _ _ _ _ ml1 ?_
              have er : nI r + 1 = nI (r + 1) := nI_1 r
              rw [g3, g41, er, e1j, nI_clamp (by omega), nI_clamp (by omega), nI_m hqr, xg_8 (by omega), xl_8 (by omega), nI_ltI (by omega) (by omega)]
              have done : ¬ kd T r = 2 → ((8 < (r - q)) → (vp_in (nI j) 1002 ∧ (vp_in (nI j) 1002 ∧ (W_X12_cutAll_17 (cs ro (d + 2)) ro Q (nI (j + 1)) (nI r) (ab_ui (ab_ui mi1 43 j (nI q)) 42 j 4) (ab_ul ml1 44 j (hL (hN T q (min (r - q) 8)))))))) ∧ (¬ (8 < (r - q)) → (vp_in (nI j) 1002 ∧ (vp_in (nI j) 1002 ∧ (W_X12_cutAll_17 (cs ro (d + 2)) ro Q (nI (j + 1)) (nI r) (ab_ui (ab_ui mi1 43 j (nI q)) 42 j 1) (ab_ul ml1 44 j (hL (hN T q (min (r - q) 8)))))))) := fun nr => by
                have eE : tE T (pos T j) = r := by rw [hE, hrn, rn_n nr]
                refine ⟨fun c3 => ⟨in2, in2, ?_⟩, fun c3 => ⟨in2, in2, ?_⟩⟩
                · have hK : tK T (pos T j) = 7 := tK_bad 2 (by rw [sq]; exact k2) (by rw [sq, eE]; omega)
                  have := next 4 (hL (hN T q (min (r - q) 8))) (by rw [hK]; rfl) (fun h => absurd h (by omega)) (fun h => absurd h (by omega)) (fun _ h => absurd h (by omega))
                  rw [eE] at this; exact this
                · have hK : tK T (pos T j) = 2 := tK_of 2 (by rw [sq]; exact k2) (by rw [sq, eE]; omega)
                  have := next 1 (hL (hN T q (min (r - q) 8))) (by rw [hK]; rfl) (fun _ => by rw [sq, eE, Nat.min_eq_left (by omega)]) (fun h => absurd h (by omega)) (fun h => absurd h (by omega))
                  rw [eE] at this; exact this
              refine ⟨fun rl => ?_, fun rl => done (fun h => by have := kd_lt h (by decide); omega)⟩
              have ec2 : mi1 41 r = nI (T.2 r) := U.2.2.1 r rl
              have hc2 := c128 r rl
              have kc2 := kd_c rl
              rw [ec2]
              refine ⟨in_of (by omega) (by decide), _, _, _, s_let hc2, ⟨fun g => done (fun h => pI_e0.1 g (srt_2.1 (by rw [← kc2]; exact h))), fun g => ?_⟩⟩
              have dr : 97 ≤ T.2 r ∧ T.2 r ≤ 122 := Classical.not_not.1 (fun h => g (pI_e0.2 h))
              have kr : kd T r = 2 := by rw [kc2]; exact srt_2.2 dr
              have nx := ih2 (r + 1) (by omega) (by omega) (by omega) (by rw [hrn, rn_y Z (by decide) kr])
              rw [g41, ec2]
              refine ⟨fun c3 => ⟨in_of (by omega) (by decide), _, _, _, s_rank dr, ?_⟩, fun c3 => ?_⟩
              · have em : min (r + 1 - q) 8 = (r - q) + 1 := by omega
                have em2 : min (r - q) 8 = r - q := by omega
                have ev : (37 : Int64) * hL (hN T q (min (r - q) 8)) + (nI (T.2 r - 96)).toInt64 = hL (hN T q (min (r + 1 - q) 8)) := by
                  rw [em, em2, hL_i _ (by omega)]
                  show hL 37 * hL (hN T q (r - q)) + hL (T.2 r - 96) = hL (37 * hN T q (r - q) + (T.2 (q + (r - q)) - 96))
                  have : q + (r - q) = r := by omega
                  rw [this, hL_mul, hL_add]
                rw [ev]; exact nx
              · have em : min (r + 1 - q) 8 = min (r - q) 8 := by omega
                rw [em] at nx; exact nx
          have r0 := run 1001 q (by omega) (by omega) (Nat.le_refl _) rfl
          rw [Nat.sub_self] at r0
          exact r0
      · -- the end
        have eq : q = T.1 := by omega
        have sS : tS T (pos T j) = T.1 := by
          rw [← hS, eq]
          have := tS_ge T T.1
          have := tS_le T (Nat.le_refl T.1)
          omega
        have k0 : tK T (pos T j) = 0 := tK_of 0 (by rw [sS]; exact kd_0.2 (Nat.le_refl _)) (by omega)
        refine ⟨in2, in2, hQ _ _ ⟨⟨j, by omega, k0, fun i hi => (U.2.2.2.1 i hi).1, fun i hi => ?_⟩, ?_, ?_, ?_, ?_⟩⟩
        · by_cases c : i = j
          · unfold row
            rw [c, k0, sS]
            refine ⟨?_, ?_, fun h => absurd h (by decide), fun h => absurd h (by decide), fun h => absurd h (by decide)⟩
            · simp [ui_app]
            · simp [ui_app]; rfl
          · have R := (U.2.2.2.1 i (by omega)).2
            unfold row at R ⊢
            refine ⟨?_, ?_, R.2.2⟩
            · simp [ui_app, c]; exact R.1
            · simp [ui_app, c]; exact R.2.1
        · simp [ui_app]
        · simp [ui_app]
        · simp [ui_app]; exact U.2.1
        · exact (((U.2.2.2.2.ui _ (by unfold cuA; rfl)).ui _ (by unfold cuA; rfl)).ui _ rfl).ui _ rfl
  refine all 1001 0 0 _ ml (by omega) (Nat.zero_le _) (Nat.le_refl _) (Nat.le_refl _) rfl ⟨?_, ?_, fun i hi => ?_, fun i hi => absurd hi (Nat.not_lt_zero i), (fr.rf.ui _ rfl).ui _ rfl⟩
  · simp [ui_app]; exact C.1
  · simp [ui_app]
  · simp [ui_app]; exact C.2 i hi
end MC
