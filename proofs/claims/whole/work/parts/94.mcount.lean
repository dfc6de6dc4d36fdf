/-! The reference's numbers and counts. -/
section MN
variable {ro : ab_E} {d : Nat} {mi mi' : cM1} {ml ml' : cM2} {T : tSt} {z z' : Nat × Nat}
theorem hL_t {n : Nat} (h : n < 2 ^ 63) : (hL n).toInt = n := Int64.toInt_ofNat_of_lt h
theorem lc_g {a b : Nat} (ha : a < 2 ^ 63) (hb : b < 2 ^ 63) : (0 < lg_cmp (hL a) (hL b)) = (b < a) := by
  have e : (hL b < hL a) ↔ b < a := by rw [Int64.lt_iff_toInt_lt, hL_t ha, hL_t hb]; omega
  apply propext
  unfold lg_cmp
  by_cases c : b < a
  · rw [if_pos (e.2 c)]; exact ⟨fun _ => c, fun _ => by decide⟩
  · rw [if_neg (fun h => c (e.1 h))]
    by_cases c2 : hL a = hL b
    · rw [if_pos c2]; exact ⟨fun h => absurd h (by decide), fun h => absurd h c⟩
    · rw [if_neg c2]; exact ⟨fun h => absurd h (by decide), fun h => absurd h c⟩
theorem lc_l {a b : Nat} (ha : a < 2 ^ 63) (hb : b < 2 ^ 63) : (lg_cmp (hL a) (hL b) < 0) = (a < b) := by
  have e : (hL b < hL a) ↔ b < a := by rw [Int64.lt_iff_toInt_lt, hL_t ha, hL_t hb]; omega
  apply propext
  unfold lg_cmp
  by_cases c : b < a
  · rw [if_pos (e.2 c)]; exact ⟨fun h => absurd h (by decide), fun _ => by omega⟩
  · rw [if_neg (fun h => c (e.1 h))]
    by_cases c2 : hL a = hL b
    · rw [if_pos c2]; have := (hL_e ha hb).1 c2; exact ⟨fun h => absurd h (by decide), fun h => absurd h (by omega)⟩
    · rw [if_neg c2]; exact ⟨fun _ => by have : ¬ a = b := fun q => c2 (by rw [q])
                                         omega, fun _ => by decide⟩
theorem hL_3 : ∀ v, v < 1000 → (hL v).toInt32 = nI v := by decide +kernel
theorem fl_0 {k : Nat} (hk : 0 < k) : 0 < (flz T k z).1 := by have := flz_n (T := T) (z := z) k hk; omega
set_option maxHeartbeats 1000000 in
theorem m_takeNumber {l : Nat} {v : Int32} (Z : tOK T) (hv : v = nI l) (hl : l < 100) (R : RM T z mi ml) : ∃ mi', cS ro (d + 2) 167 [.ref 40, .int v] mi ml (some (.int (nI (nmr T (l + 1) z)))) mi' ml ∧ RM T (nmz T (l + 1) z) mi' ml ∧ fr mrA mrB mi ml mi' ml := by
  have key : ∃ mi' ml', cS ro (d + 2) 167 [.ref 40, .int v] mi ml (some (.int (nI (nmr T (l + 1) z)))) mi' ml' ∧ (ml' = ml ∧ RM T (nmz T (l + 1) z) mi' ml ∧ fr mrA mrB mi ml mi' ml) := by
    refine ab_ex_q rfl rfl (fun Q hQ => vc_X12_takeNumber_0 v mi ml ?_)
    obtain ⟨j, K⟩ := R.tk
    have hz := R.2.2.1
    have hj := K.2.1
    have h7 := tK_7 T z.2
    have hO := srO_l (tK T z.2)
    have in2 : vp_in (nI j) 1002 := in_of (by omega) (by decide)
    have ej : nI j + 1 - 1 = nI j := by rw [Int32.add_sub_cancel]
    rw [R.2.1, K.1, xe_0 (by omega), xg_0 (by omega), nI_clamp (by omega), K.2.2.2.1, xe_2 (by omega), srO_2 h7, hv, hL_i _ (by omega), ej, nI_clamp (by omega)]
    by_cases c0 : z.1 = 0
    · refine ⟨fun _ => ⟨in2, ⟨fun c3 => ⟨fun _ => ⟨in2, ?_⟩, fun q => absurd c0 q⟩, fun c3 => ?_⟩⟩, fun q => absurd c0 q⟩
      · have lt := nmv_lt c3
        rw [K.2.2.2.2.2.1 c3, lc_g (by omega) (by omega), hL_3 _ lt]
        refine ⟨fun c => ?_, fun c => ⟨fun q => absurd q (by omega), fun _ => ⟨in2, ?_⟩⟩⟩
        · obtain ⟨m2, g1, g2, g3⟩ := m_wrong (ro := ro) (d := d) (v := 4) Z (k := 4) rfl (by decide) R
          refine ⟨m2, ml, g1, ?_⟩
          have hb := g2.2.2.1
          rw [g2.2.1, xg_0 (by omega)]
          refine ⟨fun _ => ?_, fun q => absurd (fl_0 (by decide)) q⟩
          have e : nmr T (l + 1) z = 0 := by unfold nmr; rw [if_neg (by omega)]
          rw [e] at hQ
          exact hQ _ _ ⟨rfl, by unfold nmz; rw [if_pos ⟨c0, c3⟩, if_neg (by omega)]; exact g2, g3⟩
        · have e : nmr T (l + 1) z = nmv T z.2 := by unfold nmr; rw [if_pos ⟨c0, c3, by omega⟩]
          rw [e] at hQ
          have := R.st (by omega)
          rw [K.1] at this
          exact hQ _ _ ⟨rfl, by unfold nmz; rw [if_pos ⟨c0, c3⟩, if_pos (by omega)]; exact this, fr.rf.ui _ rfl⟩
      · obtain ⟨m2, g1, g2, g3⟩ := m_wrong (ro := ro) (d := d) (v := 1) Z (k := 1) rfl (by decide) R
        refine ⟨m2, ml, g1, ?_⟩
        have hb := g2.2.2.1
        rw [g2.2.1, xg_0 (by omega)]
        refine ⟨fun _ => ?_, fun q => absurd (fl_0 (by decide)) q⟩
        have e : nmr T (l + 1) z = 0 := by unfold nmr; rw [if_neg (by omega)]
        rw [e] at hQ
        exact hQ _ _ ⟨rfl, by unfold nmz; rw [if_neg (by omega)]; exact g2, g3⟩
    · refine ⟨fun q => absurd q c0, fun _ => ⟨fun q => absurd q c0, fun _ => ⟨fun _ => ?_, fun q => absurd (by omega) q⟩⟩⟩
      have e : nmr T (l + 1) z = 0 := by unfold nmr; rw [if_neg (by omega)]
      have e2 : nmz T (l + 1) z = z := by unfold nmz flz; rw [if_neg (by omega), if_neg c0]
      rw [e, e2] at hQ
      exact hQ _ _ ⟨rfl, R, fr.rf⟩
  obtain ⟨mi', ml', h1, rfl, h2⟩ := key
  exact ⟨mi', h1, h2⟩
set_option maxHeartbeats 1000000 in
theorem m_takeLine {n : Nat} (Z : tOK T) (hn : mi 40 12 = nI n) (hl : n < 100) (c0 : z.1 = 0) (R : RM T z mi ml) : ∃ r mi', cS ro (d + 2) 176 [.ref 40] mi ml (some (.int r)) mi' ml ∧ RM T (nmz T n z) mi' ml ∧ fr mrA mrB mi ml mi' ml ∧ ((nmz T n z).1 = 0 → r = nI (nmr T n z)) := by
  have key : ∃ r mi' ml', cS ro (d + 2) 176 [.ref 40] mi ml (some (.int r)) mi' ml' ∧ (ml' = ml ∧ RM T (nmz T n z) mi' ml ∧ fr mrA mrB mi ml mi' ml ∧ ((nmz T n z).1 = 0 → r = nI (nmr T n z))) := by
    refine ab_ei_q rfl rfl (fun Q hQ => vc_X12_takeLine_0 mi ml ?_)
    obtain ⟨j, K⟩ := R.tk
    have hz := R.2.2.1
    have hj := K.2.1
    have h7 := tK_7 T z.2
    have hO := srO_l (tK T z.2)
    have in2 : vp_in (nI j) 1002 := in_of (by omega) (by decide)
    have ej : nI j + 1 - 1 = nI j := by rw [Int32.add_sub_cancel]
    rw [R.2.1, K.1, xg_0 (by omega), nI_clamp (by omega), K.2.2.2.1, xe_2 (by omega), srO_2 h7, hn, hL_i _ (by omega), ej, nI_clamp (by omega)]
    refine ⟨in2, ⟨fun c3 => ⟨in2, ?_⟩, fun c3 => ?_⟩⟩
    · have lt := nmv_lt c3
      rw [K.2.2.2.2.2.1 c3, lc_l (by omega) (by omega), hL_3 _ lt]
      refine ⟨fun c => ⟨fun q => absurd q (by omega), fun _ => ⟨in2, ?_⟩⟩, fun c => ?_⟩
      · have e : nmr T n z = nmv T z.2 := by unfold nmr; rw [if_pos ⟨c0, c3, by omega⟩]
        have := R.st (by omega)
        rw [K.1] at this
        exact hQ _ _ _ ⟨rfl, by unfold nmz; rw [if_pos ⟨c0, c3⟩, if_pos (by omega)]; exact this, fr.rf.ui _ rfl, fun _ => by rw [e]⟩
      · obtain ⟨m2, g1, g2, g3⟩ := m_wrong (ro := ro) (d := d) (v := 4) Z (k := 4) rfl (by decide) R
        refine ⟨m2, ml, g1, ?_⟩
        have hb := g2.2.2.1
        have en : nmz T n z = flz T 4 z := by unfold nmz; rw [if_pos ⟨c0, c3⟩, if_neg (by omega)]
        rw [g2.2.1, xg_0 (by omega)]
        refine ⟨fun _ => ?_, fun q => absurd (fl_0 (by decide)) q⟩
        exact hQ _ _ _ ⟨rfl, by rw [en]; exact g2, g3, fun q => by rw [en] at q; exact absurd q (flz_n 4 (by decide))⟩
    · obtain ⟨m2, g1, g2, g3⟩ := m_wrong (ro := ro) (d := d) (v := 1) Z (k := 1) rfl (by decide) R
      refine ⟨m2, ml, g1, ?_⟩
      have hb := g2.2.2.1
      have en : nmz T n z = flz T 1 z := by unfold nmz; rw [if_neg (by omega)]
      rw [g2.2.1, xg_0 (by omega)]
      refine ⟨fun _ => ?_, fun q => absurd (fl_0 (by decide)) q⟩
      exact hQ _ _ _ ⟨rfl, by rw [en]; exact g2, g3, fun q => by rw [en] at q; exact absurd q (flz_n 1 (by decide))⟩
  obtain ⟨r, mi', ml', h1, rfl, h2⟩ := key
  exact ⟨r, mi', h1, h2⟩
theorem shl0 (s : Int64) : (0 : Int64) <<< s = 0 := by simp
/-- the worlds written -/
def CN (ml : cM2) (x y : Int64) (ml' : cM2) : Prop := ml' 40 10 = x ∧ ml' 40 11 = y ∧ ∀ k j, mrB k j = false → ml' k j = ml k j
theorem CN.put {x y x' y' : Int64} (h : CN ml x y ml') : CN ml x' y' (ab_ul (ab_ul ml' 40 10 x') 40 11 y') := by
  refine ⟨by simp [ul_app], by simp [ul_app], fun k j q => ?_⟩
  have F : fr mrA mrB (fun _ _ => 0) ml' (fun _ _ => 0) (ab_ul (ab_ul ml' 40 10 x') 40 11 y') := (fr.rf.ul _ rfl).ul _ rfl
  rw [F.2 k j q]; exact h.2.2 k j q
set_option maxHeartbeats 2000000 in
theorem m_counts {m l : Nat} {b : Bool} (hm : m < 128) (hl : l < 100) : ∃ x y ml', cS ro (d + 2) 162 [.ref 40, .int (nI m), .int (nI l), .int (bI b)] mi ml none mi ml' ∧ CN ml x y ml' ∧ cbL m l b 0 x ∧ cbL m l b 64 y := by
  have key : ∃ mi' ml', cS ro (d + 2) 162 [.ref 40, .int (nI m), .int (nI l), .int (bI b)] mi ml none mi' ml' ∧ (mi' = mi ∧ ∃ x y, CN ml x y ml' ∧ cbL m l b 0 x ∧ cbL m l b 64 y) := by
    refine ab_ex_q rfl rfl (fun Q hQ => vc_X12_counts_0 _ _ _ mi ml ?_)
    refine up0 (n := 128) (F := fun i => ∀ x y ml1, CN ml x y ml1 → (∀ k, k < 64 → b6 x k = (decide (k < i) && cb m l b k)) → (∀ k, k < 64 → b6 y k = (decide (64 + k < i) && cb m l b (64 + k))) → W_X12_counts_13 (cs ro (d + 1)) ro Q (nI m) (nI l) (bI b) (nI i) mi ml1) (fun i hi ih x y ml1 hC hx hy => ?_) (fun x y ml1 hC hx hy => ?_) 0 0 _ (CN.put (x := ml 40 10) (y := ml 40 11) ⟨rfl, rfl, fun _ _ _ => rfl⟩) (fun k _ => by rw [b6_0]; simp) (fun k _ => by rw [b6_0]; simp)
    · refine vc_X12_counts_13 _ _ _ _ mi ml1 ?_
      have e1 : nI i + 1 = nI (i + 1) := nI_1 i
      have hc := pcn_le (b3 (nI i &&& nI m)) 7
      rw [e1, xl_128 (by omega), xl_64 (by omega)]
      refine ⟨fun _ => ⟨_, _, _, s_bits _, ?_⟩, fun c => absurd hi c⟩
      rw [hC.1, hC.2.1, pcn_7 hm _ (by decide) (by decide), bI_0, nI_ltI (by omega) (by omega), nI_ltI (by omega) (by omega), shl0, shl0]
      have or0 : ∀ a : Int64, a ||| 0 = a := fun a => by simp
      rw [or0, or0]
      have dk : ∀ k, ¬ k = i → decide (k < i + 1) = decide (k < i) := fun k q => by
        by_cases q2 : k < i
        · rw [decide_eq_true q2, decide_eq_true (by omega)]
        · rw [decide_eq_false q2, decide_eq_false (by omega)]
      have no : cb m l b i = false → ∀ ml2, CN ml x y ml2 → W_X12_counts_13 (cs ro (d + 1)) ro Q (nI m) (nI l) (bI b) (nI (i + 1)) mi ml2 := fun c ml2 h2 => ih x y ml2 h2 (fun k hk => by
          rw [hx k hk]
          by_cases q : k = i
          · rw [q, c]; simp
          · rw [dk k q]) (fun k hk => by
          rw [hy k hk]
          by_cases q : 64 + k = i
          · rw [q, c]; simp
          · rw [dk _ q])
      have yes1 : cb m l b i = true → i < 64 → ∀ ml2, CN ml (x ||| ((1 : Int64) <<< ((nI i).toInt64 &&& 63))) y ml2 → W_X12_counts_13 (cs ro (d + 1)) ro Q (nI m) (nI l) (bI b) (nI (i + 1)) mi ml2 := fun c h64 ml2 h2 => ih _ y ml2 h2 (fun k hk => by
          rw [b6_orbit x h64, hx k hk]
          by_cases q : k = i
          · rw [q, c]; simp
          · rw [dk k q, decide_eq_false q, Bool.or_false]) (fun k hk => by
          rw [hy k hk, dk _ (by omega)])
      have yes2 : cb m l b i = true → ¬ i < 64 → ∀ ml2, CN ml x (y ||| ((1 : Int64) <<< ((nI i - 64).toInt64 &&& 63))) ml2 → W_X12_counts_13 (cs ro (d + 1)) ro Q (nI m) (nI l) (bI b) (nI (i + 1)) mi ml2 := fun c h64 ml2 h2 => ih x _ ml2 h2 (fun k hk => by
          rw [hx k hk, dk _ (by omega)]) (fun k hk => by
          have em : nI i - 64 = nI (i - 64) := nI_m (b := 64) (by omega)
          rw [em, b6_orbit y (by omega), hy k hk]
          by_cases q : k = i - 64
          · have e : 64 + k = i := by omega
            rw [e, c, decide_eq_true q]; simp
          · rw [dk _ (by omega), decide_eq_false q, Bool.or_false])
      have cb0 : b = false → cb m l b i = Nat.ble l (pcn (b3 (nI i &&& nI m)) 7) := fun h => by unfold cb; rw [h]; rfl
      have cb1 : b = true → cb m l b i = Nat.ble (pcn (b3 (nI i &&& nI m)) 7) l := fun h => by unfold cb; rw [if_pos h]
      have P := fun x' y' => CN.put (x' := x') (y' := y') hC
      refine ⟨fun hb => ⟨fun c => ?_, fun c => ?_⟩, fun hb => ⟨fun c => ?_, fun c => ?_⟩⟩
      · have cc : cb m l b i = false := by rw [cb0 hb]; exact Bool.eq_false_iff.2 (fun q => by have := Nat.le_of_ble_eq_true q; omega)
        refine ⟨fun h => ⟨fun _ => ?_, fun h' => absurd h h'⟩, fun h => ⟨fun h' => absurd h' h, fun _ => ?_⟩⟩ <;> exact no cc _ (P _ _)
      · have cc : cb m l b i = true := by rw [cb0 hb]; exact Nat.ble_eq_true_of_le (by omega)
        exact ⟨fun h => ⟨fun _ => yes1 cc h _ (P _ _), fun h' => absurd h h'⟩, fun h => ⟨fun h' => absurd h' h, fun _ => yes2 cc h _ (P _ _)⟩⟩
      · have hb : b = true := by cases b with
          | true => rfl
          | false => exact absurd rfl hb
        have cc : cb m l b i = false := by rw [cb1 hb]; exact Bool.eq_false_iff.2 (fun q => by have := Nat.le_of_ble_eq_true q; omega)
        refine ⟨fun h => ⟨fun _ => ?_, fun h' => absurd h h'⟩, fun h => ⟨fun h' => absurd h' h, fun _ => ?_⟩⟩ <;> exact no cc _ (P _ _)
      · have hb : b = true := by cases b with
          | true => rfl
          | false => exact absurd rfl hb
        have cc : cb m l b i = true := by rw [cb1 hb]; exact Nat.ble_eq_true_of_le (by omega)
        exact ⟨fun h => ⟨fun _ => yes1 cc h _ (P _ _), fun h' => absurd h h'⟩, fun h => ⟨fun h' => absurd h' h, fun _ => yes2 cc h _ (P _ _)⟩⟩
    · refine vc_X12_counts_13 _ _ _ _ mi ml1 ?_
      rw [xl_128 (by omega)]
      refine ⟨fun c => absurd c (by omega), fun _ => hQ _ _ ⟨rfl, x, y, hC, fun k hk => ?_, fun k hk => ?_⟩⟩
      · rw [hx k hk, decide_eq_true (by omega), Bool.true_and, Nat.zero_add]
      · rw [hy k hk, decide_eq_true (by omega), Bool.true_and]
  obtain ⟨mi', ml', h1, rfl, x, y, h2⟩ := key
  exact ⟨x, y, ml', h1, h2⟩
end MN
