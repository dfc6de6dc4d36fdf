/-! Numbers, atoms and counts, the class's side. -/
/-- the atoms m counted in world w, as far as l -/
def cb (m l : Nat) (b : Bool) (w : Nat) : Bool := if b = true then Nat.ble (pcn (b3 (nI w &&& nI m)) 7) l else Nat.ble l (pcn (b3 (nI w &&& nI m)) 7)
def cbL (m l : Nat) (b : Bool) (f : Nat) (x : Int64) : Prop := ∀ i, i < 64 → b6 x i = cb m l b (f + i)
/-- one atom more -/
def akz (T : tSt) (m : Nat) (z : Nat × Nat) : Nat × Nat := if z.1 = 0 ∧ atP T z.2 < 7 then (if m.testBit (atP T z.2) = false then stz T z else flz T 3 z) else flz T 1 z
def akm (T : tSt) (m : Nat) (z : Nat × Nat) : Nat := if (z.1 = 0 ∧ atP T z.2 < 7) ∧ m.testBit (atP T z.2) = false then m ||| 2 ^ atP T z.2 else m
section NM
variable {ro : ab_E} {d : Nat} {mi : cM1} {ml : cM2} {T : tSt} {z : Nat × Nat}
theorem nm_k {p : Nat} (h : tK T p = 3) : kd T (tS T p) = 3 ∧ tE T p - tS T p ≤ 3 ∧ tE T p = rn T 3 (tS T p) := by
  have k3 : kd T (tS T p) = 3 ∧ tE T p - tS T p ≤ 3 := by
    unfold tK at h
    by_cases q : (kd T (tS T p) = 2 ∧ 8 < tE T p - tS T p) ∨ (kd T (tS T p) = 3 ∧ 3 < tE T p - tS T p)
    · rw [if_pos q] at h; omega
    · rw [if_neg q] at h
      exact ⟨h, by omega⟩
  refine ⟨k3.1, k3.2, ?_⟩
  unfold tE
  rw [k3.1, if_pos (Or.inr rfl)]
theorem rnf_all {k : Nat} : ∀ m p q, p ≤ q → q < rnf T k m p → kd T q = k
  | 0, p, q, h1, h2 => absurd h2 (by show ¬ q < p; omega)
  | m + 1, p, q, h1, h2 => by
    have e : rnf T k (m + 1) p = if kd T p = k then rnf T k m (p + 1) else p := rfl
    rw [e] at h2
    by_cases c : kd T p = k
    · rw [if_pos c] at h2
      rcases Nat.lt_or_eq_of_le h1 with q1 | q1
      · exact rnf_all m (p + 1) q q1 h2
      · rw [← q1]; exact c
    · rw [if_neg c] at h2; omega
theorem kd_3 {q : Nat} (h : kd T q = 3) : 48 ≤ T.2 q ∧ T.2 q ≤ 57 := by
  have := kd_lt h (by decide)
  unfold kd at h; rw [if_pos this] at h
  unfold srt at h
  revert h; (repeat' split) <;> omega
theorem vlu_lt {s : Nat} : ∀ {i : Nat}, (∀ j, j < i → T.2 (s + j) ≤ 57) → vlu T s i < 10 ^ i
  | 0, _ => Nat.zero_lt_one
  | i + 1, h => by
    have h1 := vlu_lt (i := i) (fun j hj => h j (by omega))
    have h2 := h i (by omega)
    show vlu T s i * 10 + (T.2 (s + i) - 48) < 10 ^ (i + 1)
    rw [Nat.pow_succ]; omega
theorem nm_dig {p : Nat} (h : tK T p = 3) {j : Nat} (hj : j < tE T p - tS T p) : 48 ≤ T.2 (tS T p + j) ∧ T.2 (tS T p + j) ≤ 57 := by
  obtain ⟨k3, hl, he⟩ := nm_k h
  exact kd_3 (rnf_all 1001 (tS T p) _ (by omega) (by show tS T p + j < rn T 3 (tS T p); omega))
theorem nmv_lt {p : Nat} (h : tK T p = 3) : nmv T p < 1000 := by
  have h1 : nmv T p < 10 ^ (tE T p - tS T p) := vlu_lt (fun j hj => (nm_dig h hj).2)
  have h2 : 10 ^ (tE T p - tS T p) ≤ 10 ^ 3 := Nat.pow_le_pow_right (by decide) (nm_k h).2.1
  omega
theorem s_val (Z : tOK T) (R : RS T z mi) (h3 : tK T z.2 = 3) : cS ro (d + 1) 88 [.ref 2] mi ml (some (.int (nI (nmv T z.2)))) mi ml := by
  obtain ⟨C, S, hp, e5, hz⟩ := R
  have hn := Z.1
  have hs := tS_le T hp
  have he := tE_le T hp
  have hge := tE_ge Z hp
  have hl := (nm_k h3).2.1
  refine ab_sem_q rfl rfl (fun Q hQ => vc_X8_value_0 mi ml ?_)
  rw [S.1]
  refine up0 (n := tE T z.2 - tS T z.2) (F := fun i => W_X8_value_7 (cs ro d) ro Q (nI (vlu T (tS T z.2) i)) (nI (tS T z.2 + i)) mi ml) (fun i hi ih => ?_) ?_
  · refine vc_X8_value_7 _ _ mi ml ?_
    have hlt : tS T z.2 + i < T.1 := by omega
    have hlt2 : tS T z.2 + i < tE T z.2 := by omega
    have e3 := (C.2 _ hlt).1
    have hd := nm_dig h3 hi
    have ev : nI (vlu T (tS T z.2) i) * 10 + nI (T.2 (tS T z.2 + i)) - 48 = nI (vlu T (tS T z.2) (i + 1)) := by
      show nI (vlu T (tS T z.2) i) * nI 10 + nI (T.2 (tS T z.2 + i)) - nI 48 = nI (vlu T (tS T z.2) i * 10 + (T.2 (tS T z.2 + i) - 48))
      rw [nI_mul, nI_add, nI_m (by omega)]
      congr 1; omega
    rw [S.2.2, C.1]
    simp (disch := omega) only [hlt, hlt2, e3, ev, nI_ltI, nI_eq, nI_clamp, nI_1, xl_0, xg_0, xe_0, xe_m1, nI_0, xl_1, xl_2, xl_3, xl_4, xl_5, xl_6, xl_7, xl_8, xl_9, xl_10, xl_12, xl_20, xl_30, xl_32, xl_40, xl_41, xl_42, xl_48, xl_57, xl_59, xl_64, xl_97, xl_100, xl_122, xl_126, xl_128, xl_1000, xl_9999, xg_1, xg_2, xg_3, xg_4, xg_5, xg_6, xg_7, xg_8, xg_9, xg_10, xg_12, xg_20, xg_30, xg_32, xg_40, xg_41, xg_42, xg_48, xg_57, xg_59, xg_64, xg_97, xg_100, xg_122, xg_126, xg_128, xg_1000, xg_9999, xe_1, xe_2, xe_3, xe_4, xe_5, xe_6, xe_7, xe_8, xe_9, xe_10, xe_12, xe_20, xe_30, xe_32, xe_40, xe_41, xe_42, xe_48, xe_57, xe_59, xe_64, xe_97, xe_100, xe_122, xe_126, xe_128, xe_1000, xe_9999, true_implies, false_implies, not_true_eq_false, not_false_eq_true, and_true, true_and, forall_const, imp_self, lc_eq, implies_true, vin, Bool.true_eq_false, Bool.false_eq_true, false_and, and_false, or_false, false_or, or_true, true_or]
    exact ih
  · refine vc_X8_value_7 _ _ mi ml ?_
    have hge2 : ¬ tS T z.2 + (tE T z.2 - tS T z.2) < tE T z.2 := by omega
    rw [S.2.2]
    simp (disch := omega) only [hge2, nI_ltI, nI_eq, nI_clamp, nI_1, xl_0, xg_0, xe_0, xe_m1, nI_0, xl_1, xl_2, xl_3, xl_4, xl_5, xl_6, xl_7, xl_8, xl_9, xl_10, xl_12, xl_20, xl_30, xl_32, xl_40, xl_41, xl_42, xl_48, xl_57, xl_59, xl_64, xl_97, xl_100, xl_122, xl_126, xl_128, xl_1000, xl_9999, xg_1, xg_2, xg_3, xg_4, xg_5, xg_6, xg_7, xg_8, xg_9, xg_10, xg_12, xg_20, xg_30, xg_32, xg_40, xg_41, xg_42, xg_48, xg_57, xg_59, xg_64, xg_97, xg_100, xg_122, xg_126, xg_128, xg_1000, xg_9999, xe_1, xe_2, xe_3, xe_4, xe_5, xe_6, xe_7, xe_8, xe_9, xe_10, xe_12, xe_20, xe_30, xe_32, xe_40, xe_41, xe_42, xe_48, xe_57, xe_59, xe_64, xe_97, xe_100, xe_122, xe_126, xe_128, xe_1000, xe_9999, true_implies, false_implies, not_true_eq_false, not_false_eq_true, and_true, true_and, forall_const, imp_self, lc_eq, implies_true, vin, Bool.true_eq_false, Bool.false_eq_true, false_and, and_false, or_false, false_or, or_true, true_or]
    exact hQ
theorem s_tn {l : Nat} {v : Int32} (Z : tOK T) (hv : v = nI l) (hl : l < 100) (R : RS T z mi) : ∃ mi', cS ro (d + 2) 71 [.ref 5, .int v] mi ml (some (.int (nI (nmr T l z)))) mi' ml ∧ RS T (nmz T l z) mi' ∧ fr rdA rdB mi ml mi' ml := by
  have key : ∃ mi' ml', cS ro (d + 2) 71 [.ref 5, .int v] mi ml (some (.int (nI (nmr T l z)))) mi' ml' ∧ (ml' = ml ∧ RS T (nmz T l z) mi' ∧ fr rdA rdB mi ml mi' ml) := by
    refine ab_ex_q rfl rfl (fun Q hQ => vc_X7_takeNumber_0 v mi ml ?_)
    have h7 := tK_7 T z.2
    have hz := R.2.2.2.2
    obtain ⟨m1, h1, h2, h3⟩ := s_st (ro := ro) (d := d) (ml := ml) Z R
    obtain ⟨m2, g1, g2, g3⟩ := s_fail (ro := ro) (d := d) (ml := ml) (v := 1) Z (k := 1) rfl (by decide) R
    obtain ⟨m4, f1, f2, f3⟩ := s_fail (ro := ro) (d := d) (ml := ml) (v := 4) Z (k := 4) rfl (by decide) R
    have no : ¬ (z.1 = 0 ∧ tK T z.2 = 3) → Q (some (.int 0)) (ab_G m2 ml) := fun c => by
      have e : nmr T l z = 0 := by unfold nmr; rw [if_neg (fun h => c ⟨h.1, h.2.1⟩)]
      rw [e] at hQ
      exact hQ _ _ ⟨rfl, by unfold nmz; rw [if_neg c]; exact g2, g3⟩
    rw [R.2.2.2.1, R.2.1.2.1, hv, xe_0 (by omega), xe_3 (by omega)]
    refine ⟨fun c => ⟨fun c2 => ⟨_, _, _, s_val Z R c2, ?_⟩, fun c2 => ⟨_, _, g1, no (fun h => c2 h.2)⟩⟩, fun c => ⟨_, _, g1, no (fun h => c h.1)⟩⟩
    have hlt := nmv_lt c2
    rw [nI_ltI (by omega) (by omega)]
    refine ⟨fun c3 => ⟨_, _, h1, ?_⟩, fun c3 => ⟨_, _, f1, ?_⟩⟩
    · have e : nmr T l z = nmv T z.2 := by unfold nmr; rw [if_pos ⟨c, c2, c3⟩]
      rw [e] at hQ
      exact hQ _ _ ⟨rfl, by unfold nmz; rw [if_pos ⟨c, c2⟩, if_pos c3]; exact h2, h3⟩
    · have e : nmr T l z = 0 := by unfold nmr; rw [if_neg (fun h => c3 h.2.2)]
      rw [e] at hQ
      exact hQ _ _ ⟨rfl, by unfold nmz; rw [if_pos ⟨c, c2⟩, if_neg c3]; exact f2, f3⟩
  obtain ⟨mi', ml', h1, rfl, h2⟩ := key
  exact ⟨mi', h1, h2⟩
theorem aI_m1 (a : Nat) : (aI a = -1) = (¬ a < 7) := by
  unfold aI
  by_cases h : a < 7
  · rw [if_pos h, xe_m1 (by omega)]; exact propext ⟨False.elim, fun q => q h⟩
  · rw [if_neg h]; exact propext ⟨fun _ => h, fun _ => rfl⟩
theorem aI_l0 (a : Nat) : (aI a < 0) = (¬ a < 7) := by
  unfold aI
  by_cases h : a < 7
  · rw [if_pos h, xl_0 (by omega)]; exact propext ⟨False.elim, fun q => q h⟩
  · rw [if_neg h]; exact propext ⟨fun _ => h, fun _ => by decide⟩
theorem aI_y {a : Nat} (h : a < 7) : aI a = nI a := by unfold aI; rw [if_pos h]
theorem s_ta {m : Nat} {v : Int32} (Z : tOK T) (hv : v = nI m) (hm : m < 128) (R : RS T z mi) : ∃ mi', cS ro (d + 2) 78 [.ref 5, .int v] mi ml (some (.int (nI (akm T m z)))) mi' ml ∧ RS T (akz T m z) mi' ∧ fr rdA rdB mi ml mi' ml := by
  have key : ∃ mi' ml', cS ro (d + 2) 78 [.ref 5, .int v] mi ml (some (.int (nI (akm T m z)))) mi' ml' ∧ (ml' = ml ∧ RS T (akz T m z) mi' ∧ fr rdA rdB mi ml mi' ml) := by
    refine ab_ex_q rfl rfl (fun Q hQ => vc_X7_takeAtom_0 v mi ml ⟨_, _, _, s_atom Z R, ?_⟩)
    have hz := R.2.2.2.2
    obtain ⟨m1, h1, h2, h3⟩ := s_st (ro := ro) (d := d) (ml := ml) Z R
    obtain ⟨m2, g1, g2, g3⟩ := s_fail (ro := ro) (d := d) (ml := ml) (v := 1) Z (k := 1) rfl (by decide) R
    obtain ⟨m4, f1, f2, f3⟩ := s_fail (ro := ro) (d := d) (ml := ml) (v := 3) Z (k := 3) rfl (by decide) R
    have no : ¬ (z.1 = 0 ∧ atP T z.2 < 7) → Q (some (.int v)) (ab_G m2 ml) := fun c => by
      have e : akm T m z = m := by unfold akm; rw [if_neg (fun h => c h.1)]
      rw [e, ← hv] at hQ
      exact hQ _ _ ⟨rfl, by unfold akz; rw [if_neg c]; exact g2, g3⟩
    rw [R.2.2.2.1, xe_0 (by omega), aI_m1]
    refine ⟨fun c => ⟨fun c2 => ⟨_, _, g1, no (fun h => c2 h.2)⟩, fun c2 => ?_⟩, fun c => ⟨_, _, g1, no (fun h => c h.1)⟩⟩
    have c2 := Classical.not_not.1 c2
    rw [aI_y c2, b3_a0 _ (by omega), hv, b3_nI (by omega), or_bit (by omega) (by omega)]
    refine ⟨fun c3 => ⟨_, _, h1, ?_⟩, fun c3 => ⟨_, _, f1, ?_⟩⟩
    · have e : akm T m z = m ||| 2 ^ atP T z.2 := by unfold akm; rw [if_pos ⟨⟨c, c2⟩, c3⟩]
      rw [e] at hQ
      exact hQ _ _ ⟨rfl, by unfold akz; rw [if_pos ⟨c, c2⟩, if_pos c3]; exact h2, h3⟩
    · have e : akm T m z = m := by unfold akm; rw [if_neg (fun h => c3 h.2)]
      rw [e] at hQ
      exact hQ _ _ ⟨rfl, by unfold akz; rw [if_pos ⟨c, c2⟩, if_neg c3]; exact f2, f3⟩
  obtain ⟨mi', ml', h1, rfl, h2⟩ := key
  exact ⟨mi', h1, h2⟩
theorem akm_lt {m : Nat} (hm : m < 128) : akm T m z < 128 := by
  unfold akm
  split
  · rename_i h
    exact Nat.or_lt_two_pow (n := 7) hm (Nat.pow_lt_pow_right (by decide) h.1.2)
  · exact hm
theorem pcn_7 {m : Nat} (hm : m < 128) (w : Int32) {n : Nat} (hn : 7 ≤ n) (h32 : n ≤ 32) : pcn (b3 (w &&& nI m)) n = pcn (b3 (w &&& nI m)) 7 := by
  refine pcn_cut hn (fun i h1 h2 => ?_)
  rw [b3_and, b3_nI (by omega), Nat.testBit_lt_two_pow (Nat.lt_of_lt_of_le hm (Nat.pow_le_pow_right (n := 2) (by decide) h1 : 2 ^ 7 ≤ 2 ^ i)), Bool.and_false]
theorem s_half {m l f : Nat} {b : Bool} (hm : m < 128) (hl : l < 100) (hf : f ≤ 64) : ∃ x, cS ro (d + 2) 79 [.int (nI f), .int (nI m), .int (nI l), .int (bI b)] mi ml (some (.long x)) mi ml ∧ cbL m l b f x := by
  have main : ∀ Q : Option Value → ab_S → Prop, (∀ x, cbL m l b f x → Q (some (.long x)) (ab_G mi ml)) → W_X7_countedHalf_6 (cs ro (d + 1)) ro Q (nI f) (nI m) (nI l) (bI b) 0 0 mi ml := by
    intro Q hQ
    refine up0 (n := 64) (F := fun i => ∀ x : Int64, (∀ k, b6 x k = (decide (k < i) && cb m l b (f + k))) → W_X7_countedHalf_6 (cs ro (d + 1)) ro Q (nI f) (nI m) (nI l) (bI b) x (nI i) mi ml) (fun i hi ih x hx => ?_) (fun x hx => ?_) 0 (fun k => by rw [b6_0]; simp)
    · refine vc_X7_countedHalf_6 _ _ _ _ _ _ mi ml ?_
      have e3 : nI f + nI i = nI (f + i) := nI_add f i
      rw [e3]
      have hc := pcn_le (b3 (nI (f + i) &&& nI m)) 7
      have yes : cb m l b (f + i) = true → W_X7_countedHalf_6 (cs ro (d + 1)) ro Q (nI f) (nI m) (nI l) (bI b) (x ||| ((1 : Int64) <<< ((nI i).toInt64 &&& 63))) (nI (i + 1)) mi ml := fun y => ih _ (fun k => by
        rw [b6_orbit x hi, hx k]
        by_cases q : k = i
        · rw [q, y]; simp
        · have : (decide (k < i + 1)) = decide (k < i) := by
            by_cases q2 : k < i
            · rw [decide_eq_true q2, decide_eq_true (by omega)]
            · rw [decide_eq_false q2, decide_eq_false (by omega)]
          rw [this, decide_eq_false q, Bool.or_false])
      have not : cb m l b (f + i) = false → W_X7_countedHalf_6 (cs ro (d + 1)) ro Q (nI f) (nI m) (nI l) (bI b) x (nI (i + 1)) mi ml := fun y => ih _ (fun k => by
        rw [hx k]
        by_cases q : k = i
        · rw [q, y]; simp
        · have : (decide (k < i + 1)) = decide (k < i) := by
            by_cases q2 : k < i
            · rw [decide_eq_true q2, decide_eq_true (by omega)]
            · rw [decide_eq_false q2, decide_eq_false (by omega)]
          rw [this])
      have e1 : nI i + 1 = nI (i + 1) := nI_1 i
      rw [e1, xl_64 (by omega)]
      refine ⟨fun _ => ⟨_, _, _, s_bc3 _, ?_⟩, fun c => absurd hi c⟩
      rw [pcn_7 hm _ (by decide) (by decide), bI_0]
      refine ⟨fun hb => ?_, fun hb => ?_⟩
      · rw [nI_ltI (by omega) (by omega)]
        refine ⟨fun c => not ?_, fun c => yes ?_⟩
        · unfold cb; rw [hb]; exact Bool.eq_false_iff.2 (fun q => by have := Nat.le_of_ble_eq_true q; omega)
        · unfold cb; rw [hb]; exact Nat.ble_eq_true_of_le (by omega)
      · have hb : b = true := by cases b with
          | true => rfl
          | false => exact absurd rfl hb
        rw [nI_ltI (by omega) (by omega)]
        refine ⟨fun c => not ?_, fun c => yes ?_⟩
        · unfold cb; rw [hb, if_pos rfl]; exact Bool.eq_false_iff.2 (fun q => by have := Nat.le_of_ble_eq_true q; omega)
        · unfold cb; rw [hb, if_pos rfl]; exact Nat.ble_eq_true_of_le (by omega)
    · refine vc_X7_countedHalf_6 _ _ _ _ _ _ mi ml ?_
      rw [xl_64 (by omega)]
      exact ⟨fun c => absurd c (by omega), fun _ => hQ x (fun k hk => by rw [hx k, decide_eq_true hk, Bool.true_and])⟩
  have h : ab_C ro (d + 2) 79 [.int (nI f), .int (nI m), .int (nI l), .int (bI b)] (ab_G mi ml) (fun r g' => ∃ x, r = some (.long x) ∧ g' = ab_G mi ml ∧ cbL m l b f x) := ab_C_of rfl rfl (vc_X7_countedHalf_0 _ _ _ _ mi ml (main _ (fun x hx => ⟨x, rfl, rfl, hx⟩)))
  obtain ⟨r, g', h1, x, rfl, rfl, h2⟩ := h
  exact ⟨x, h1, h2⟩
end NM
section TW
variable {L : Nat} {xs : Nat → Int32} {d : Nat} {mi : cM1} {ml : cM2} {T : tSt} {z : Nat × Nat}
theorem s_tw0 (Z : tOK T) (R : RS T z mi) : ∃ mi', cS (ab_ro L xs) (d + 6) 69 [.ref 5, .ref 1000000] mi ml none mi' ml ∧ RS T (wdz T 0 z) mi' ∧ fr rdA rdB mi ml mi' ml := by
  have key : ∃ mi' ml', cS (ab_ro L xs) (d + 6) 69 [.ref 5, .ref 1000000] mi ml none mi' ml' ∧ (ml' = ml ∧ RS T (wdz T 0 z) mi' ∧ fr rdA rdB mi ml mi' ml) := by
    refine ab_ex_q rfl rfl (fun Q hQ => vc_X7_takeWord_s0_0 mi ml ?_)
    have hz := R.2.2.2.2
    obtain ⟨m1, h1, h2, h3⟩ := s_st (ro := ab_ro L xs) (d := d + 4) (ml := ml) Z R
    obtain ⟨m2, g1, g2, g3⟩ := s_fail (ro := ab_ro L xs) (d := d + 4) (ml := ml) (v := 1) Z (k := 1) rfl (by decide) R
    have no : ¬ (z.1 = 0 ∧ pB (wdP T 0 z.2) = true) → Q none (ab_G m2 ml) := fun c => hQ _ _ ⟨rfl, by unfold wdz; rw [if_neg c]; exact g2, g3⟩
    rw [R.2.2.2.1, xe_0 (by omega)]
    refine ⟨fun c => ⟨_, _, _, s_wd0 Z R.1 R.2.2.1 R.2.1, ?_⟩, fun c => ⟨_, _, g1, no (fun h => c h.1)⟩⟩
    rw [(propext pI_e0 : (pI (wdP T 0 z.2) = 0) = _)]
    refine ⟨fun c2 => ⟨_, _, g1, no (fun h => c2 (pB_iff.1 h.2))⟩, fun c2 => ⟨_, _, h1, hQ _ _ ⟨rfl, ?_, h3⟩⟩⟩
    unfold wdz; rw [if_pos ⟨c, pB_iff.2 (Classical.not_not.1 c2)⟩]; exact h2
  obtain ⟨mi', ml', h1, rfl, h2⟩ := key
  exact ⟨mi', h1, h2⟩
theorem s_tw1 (Z : tOK T) (R : RS T z mi) : ∃ mi', cS (ab_ro L xs) (d + 6) 69 [.ref 5, .ref 1000001] mi ml none mi' ml ∧ RS T (wdz T 1 z) mi' ∧ fr rdA rdB mi ml mi' ml := by
  have key : ∃ mi' ml', cS (ab_ro L xs) (d + 6) 69 [.ref 5, .ref 1000001] mi ml none mi' ml' ∧ (ml' = ml ∧ RS T (wdz T 1 z) mi' ∧ fr rdA rdB mi ml mi' ml) := by
    refine ab_ex_q rfl rfl (fun Q hQ => vc_X7_takeWord_s1_0 mi ml ?_)
    have hz := R.2.2.2.2
    obtain ⟨m1, h1, h2, h3⟩ := s_st (ro := ab_ro L xs) (d := d + 4) (ml := ml) Z R
    obtain ⟨m2, g1, g2, g3⟩ := s_fail (ro := ab_ro L xs) (d := d + 4) (ml := ml) (v := 1) Z (k := 1) rfl (by decide) R
    have no : ¬ (z.1 = 0 ∧ pB (wdP T 1 z.2) = true) → Q none (ab_G m2 ml) := fun c => hQ _ _ ⟨rfl, by unfold wdz; rw [if_neg c]; exact g2, g3⟩
    rw [R.2.2.2.1, xe_0 (by omega)]
    refine ⟨fun c => ⟨_, _, _, s_wd1 Z R.1 R.2.2.1 R.2.1, ?_⟩, fun c => ⟨_, _, g1, no (fun h => c h.1)⟩⟩
    rw [(propext pI_e0 : (pI (wdP T 1 z.2) = 0) = _)]
    refine ⟨fun c2 => ⟨_, _, g1, no (fun h => c2 (pB_iff.1 h.2))⟩, fun c2 => ⟨_, _, h1, hQ _ _ ⟨rfl, ?_, h3⟩⟩⟩
    unfold wdz; rw [if_pos ⟨c, pB_iff.2 (Classical.not_not.1 c2)⟩]; exact h2
  obtain ⟨mi', ml', h1, rfl, h2⟩ := key
  exact ⟨mi', h1, h2⟩
theorem s_tw2 (Z : tOK T) (R : RS T z mi) : ∃ mi', cS (ab_ro L xs) (d + 6) 69 [.ref 5, .ref 1000002] mi ml none mi' ml ∧ RS T (wdz T 2 z) mi' ∧ fr rdA rdB mi ml mi' ml := by
  have key : ∃ mi' ml', cS (ab_ro L xs) (d + 6) 69 [.ref 5, .ref 1000002] mi ml none mi' ml' ∧ (ml' = ml ∧ RS T (wdz T 2 z) mi' ∧ fr rdA rdB mi ml mi' ml) := by
    refine ab_ex_q rfl rfl (fun Q hQ => vc_X7_takeWord_s2_0 mi ml ?_)
    have hz := R.2.2.2.2
    obtain ⟨m1, h1, h2, h3⟩ := s_st (ro := ab_ro L xs) (d := d + 4) (ml := ml) Z R
    obtain ⟨m2, g1, g2, g3⟩ := s_fail (ro := ab_ro L xs) (d := d + 4) (ml := ml) (v := 1) Z (k := 1) rfl (by decide) R
    have no : ¬ (z.1 = 0 ∧ pB (wdP T 2 z.2) = true) → Q none (ab_G m2 ml) := fun c => hQ _ _ ⟨rfl, by unfold wdz; rw [if_neg c]; exact g2, g3⟩
    rw [R.2.2.2.1, xe_0 (by omega)]
    refine ⟨fun c => ⟨_, _, _, s_wd2 Z R.1 R.2.2.1 R.2.1, ?_⟩, fun c => ⟨_, _, g1, no (fun h => c h.1)⟩⟩
    rw [(propext pI_e0 : (pI (wdP T 2 z.2) = 0) = _)]
    refine ⟨fun c2 => ⟨_, _, g1, no (fun h => c2 (pB_iff.1 h.2))⟩, fun c2 => ⟨_, _, h1, hQ _ _ ⟨rfl, ?_, h3⟩⟩⟩
    unfold wdz; rw [if_pos ⟨c, pB_iff.2 (Classical.not_not.1 c2)⟩]; exact h2
  obtain ⟨mi', ml', h1, rfl, h2⟩ := key
  exact ⟨mi', h1, h2⟩
theorem s_tw14 (Z : tOK T) (R : RS T z mi) : ∃ mi', cS (ab_ro L xs) (d + 6) 69 [.ref 5, .ref 1000014] mi ml none mi' ml ∧ RS T (wdz T 14 z) mi' ∧ fr rdA rdB mi ml mi' ml := by
  have key : ∃ mi' ml', cS (ab_ro L xs) (d + 6) 69 [.ref 5, .ref 1000014] mi ml none mi' ml' ∧ (ml' = ml ∧ RS T (wdz T 14 z) mi' ∧ fr rdA rdB mi ml mi' ml) := by
    refine ab_ex_q rfl rfl (fun Q hQ => vc_X7_takeWord_s14_0 mi ml ?_)
    have hz := R.2.2.2.2
    obtain ⟨m1, h1, h2, h3⟩ := s_st (ro := ab_ro L xs) (d := d + 4) (ml := ml) Z R
    obtain ⟨m2, g1, g2, g3⟩ := s_fail (ro := ab_ro L xs) (d := d + 4) (ml := ml) (v := 1) Z (k := 1) rfl (by decide) R
    have no : ¬ (z.1 = 0 ∧ pB (wdP T 14 z.2) = true) → Q none (ab_G m2 ml) := fun c => hQ _ _ ⟨rfl, by unfold wdz; rw [if_neg c]; exact g2, g3⟩
    rw [R.2.2.2.1, xe_0 (by omega)]
    refine ⟨fun c => ⟨_, _, _, s_wd14 Z R.1 R.2.2.1 R.2.1, ?_⟩, fun c => ⟨_, _, g1, no (fun h => c h.1)⟩⟩
    rw [(propext pI_e0 : (pI (wdP T 14 z.2) = 0) = _)]
    refine ⟨fun c2 => ⟨_, _, g1, no (fun h => c2 (pB_iff.1 h.2))⟩, fun c2 => ⟨_, _, h1, hQ _ _ ⟨rfl, ?_, h3⟩⟩⟩
    unfold wdz; rw [if_pos ⟨c, pB_iff.2 (Classical.not_not.1 c2)⟩]; exact h2
  obtain ⟨mi', ml', h1, rfl, h2⟩ := key
  exact ⟨mi', h1, h2⟩
end TW
