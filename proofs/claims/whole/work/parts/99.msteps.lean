/-! The law's loop: what its calls do. -/
section ST
theorem j7_of {L j : Nat} (hL : L ≤ 3584) (hj : j ≤ L) (c : ¬ (Int32.ofNat L - 7) < nI j) : j + 7 ≤ L := by
  by_cases h : 7 ≤ L
  · have e : Int32.ofNat L - 7 = nI (L - 7) := nI_m (b := 7) h
    rw [e, nI_ltI (by omega) (by omega)] at c
    omega
  · refine absurd ?_ c
    have q : ∀ n, n < 7 → (Int32.ofNat n - 7).toInt < 0 := by decide
    have := q L (by omega)
    rw [Int32.lt_iff_toInt_lt, nI_toInt (by omega)]
    omega
theorem no_of {x : Int32} (h : ¬ ∃ w, w < 9 + 1 ∧ x = nI w) : x.toInt < 0 ∨ 9 < x.toInt := by
  by_cases c : x < 0
  · rw [Int32.lt_iff_toInt_lt] at c
    exact Or.inl c
  · obtain ⟨k, hk, rfl⟩ := nI_of c
    rw [nI_toInt hk]
    by_cases q : k < 10
    · exact absurd ⟨k, q, rfl⟩ h
    · exact Or.inr (by omega)
theorem cmp_s (x : Int64) : lg_cmp x x = 0 := by
  unfold lg_cmp
  rw [if_neg (by show ¬ x < x; rw [Int64.lt_iff_toInt_lt]; omega), if_pos rfl]
theorem s_thrown {ro : ab_E} {d : Nat} {mi : cM1} {ml : cM2} : cS ro (d + 1) 144 [.ref 40] mi ml (some (.int (mi 40 0))) mi ml := ab_sem_q rfl rfl (fun Q hQ => vc_X12_thrown_0 mi ml hQ)
set_option maxHeartbeats 4000000 in
set_option maxRecDepth 20000 in
theorem lw_first {L : Nat} {xs : Nat → Int32} (hL : L ≤ 3584) {j : Nat} {mi : cM1} {ml : cM2} (hj : j ≤ L) (R : Rel mi ml) : lw_run L xs (lw_XX Rel L xs j) (23, lw_ll (nI j) none none, [], 0, 0, ab_G mi ml) := by
  refine vl_23 (nI j) mi ml ⟨fun _ => rfl, fun c => ?_⟩
  have j7 : j + 7 ≤ L := j7_of hL hj c
  have v0 : vp_in (nI j) L := in_of (by omega) (by omega)
  have v1 : vp_in (nI j + 1) L := by rw [show nI j + 1 = nI (j + 1) from nI_add j 1]; exact in_of (by omega) (by omega)
  have v2 : vp_in (nI j + 2) L := by rw [show nI j + 2 = nI (j + 2) from nI_add j 2]; exact in_of (by omega) (by omega)
  have v3 : vp_in (nI j + 3) L := by rw [show nI j + 3 = nI (j + 3) from nI_add j 3]; exact in_of (by omega) (by omega)
  have v4 : vp_in (nI j + 4) L := by rw [show nI j + 4 = nI (j + 4) from nI_add j 4]; exact in_of (by omega) (by omega)
  have v5 : vp_in (nI j + 5) L := by rw [show nI j + 5 = nI (j + 5) from nI_add j 5]; exact in_of (by omega) (by omega)
  have v6 : vp_in (nI j + 6) L := by rw [show nI j + 6 = nI (j + 6) from nI_add j 6]; exact in_of (by omega) (by omega)
  have e1 : (nI j + 1).toNatClampNeg = j + 1 := by rw [show nI j + 1 = nI (j + 1) from nI_add j 1, nI_clamp (by omega)]
  have fin : ∀ {m : cM1} {l : cM2}, Rel m l → lw_XX Rel L xs j (1304, lw_ll (nI j) none none, [], 0, 0, ab_G m l) := fun h => Or.inl ⟨_, _, none, none, rfl, h, j7⟩
  refine ⟨v0, fun _ => ?_, fun _ => ⟨fun _ => ?_, fun _ => ⟨fun _ => ?_, fun _ => ⟨fun _ => ?_, fun _ => ⟨fun _ => ?_, fun _ => ⟨fun _ => ?_, fun _ => ⟨fun _ => ?_, fun _ => ⟨fun _ => ?_, fun _ => ⟨fun _ => ?_, fun _ => ⟨fun _ => ?_, fun _ => ⟨fun _ => ?_, fun _ => ⟨fun _ => ?_, fun _ => ⟨fun _ => ?_, fun _ => ⟨fun _ => ?_, fun _ => ⟨fun _ => ?_, fun _ => ⟨fun _ => ?_, fun _ => ⟨fun _ => ?_, fun _ => ⟨fun _ => ?_, fun _ => ⟨fun _ => ?_, fun _ => ⟨fun _ => ?_, fun _ => ⟨fun _ => ?_, fun _ => ⟨fun _ => ?_, fun _ => ⟨fun _ => ?_, fun _ => ⟨fun _ => ?_, fun _ => ⟨fun _ => ?_, fun _ => ⟨fun _ => ?_, fun _ => ⟨fun _ => ?_, fun _ => ⟨fun _ => ?_, fun _ => ⟨fun _ => ?_, fun _ => ⟨fun _ => ?_, fun _ => ⟨fun _ => ?_, fun _ => fin R⟩⟩⟩⟩⟩⟩⟩⟩⟩⟩⟩⟩⟩⟩⟩⟩⟩⟩⟩⟩⟩⟩⟩⟩⟩⟩⟩⟩⟩⟩⟩
  · obtain ⟨r, m1, l1, m2, l2, s1, s2, R2⟩ := op_days (ro := ab_ro L xs) (xs (nI j + 1).toNatClampNeg) mi ml R
    exact ⟨v1, r, m1, l1, s1, v1, r, m2, l2, s2, fun _ => fin R2, fun q => absurd rfl q⟩
  · obtain ⟨r, m1, l1, m2, l2, s1, s2, R2⟩ := op_view (ro := ab_ro L xs) (xs (nI j + 1).toNatClampNeg) mi ml R
    exact ⟨v1, r, m1, l1, s1, v1, r, m2, l2, s2, fun _ => fin R2, fun q => absurd rfl q⟩
  · obtain ⟨r, m1, l1, m2, l2, s1, s2, R2⟩ := op_feed (ro := ab_ro L xs) (((((xs (nI j + 1).toNatClampNeg)) : Int32).toInt64 <<< (((32 : Int32)).toInt64 &&& 63)) ||| ((((xs (nI j + 2).toNatClampNeg)) : Int32).toInt64 &&& 4294967295)) (((((xs (nI j + 3).toNatClampNeg)) : Int32).toInt64 <<< (((32 : Int32)).toInt64 &&& 63)) ||| ((((xs (nI j + 4).toNatClampNeg)) : Int32).toInt64 &&& 4294967295)) (((((xs (nI j + 5).toNatClampNeg)) : Int32).toInt64 <<< (((32 : Int32)).toInt64 &&& 63)) ||| ((((xs (nI j + 6).toNatClampNeg)) : Int32).toInt64 &&& 4294967295)) mi ml R
    exact ⟨v1, v2, v3, v4, v5, v6, r, m1, l1, s1, v1, v2, v3, v4, v5, v6, r, m2, l2, s2, fun _ => fin R2, fun q => absurd rfl q⟩
  · obtain ⟨r, m1, l1, m2, l2, s1, s2, R2⟩ := op_law (L := L) (xs := xs)  mi ml R
    exact ⟨r, m1, l1, s1, r, m2, l2, s2, fun _ => fin R2, fun q => absurd rfl q⟩
  · obtain ⟨r, m1, l1, m2, l2, s1, s2, R2⟩ := op_wish (L := L) (xs := xs) (xs (nI j + 1).toNatClampNeg) mi ml R
    exact ⟨v1, r, m1, l1, s1, v1, r, m2, l2, s2, fun _ => fin R2, fun q => absurd rfl q⟩
  · obtain ⟨r, m1, l1, m2, l2, s1, s2, R2⟩ := op_withdraw (ro := ab_ro L xs) (xs (nI j + 1).toNatClampNeg) mi ml R
    exact ⟨v1, r, m1, l1, s1, v1, r, m2, l2, s2, fun _ => fin R2, fun q => absurd rfl q⟩
  · obtain ⟨r, m1, l1, m2, l2, s1, s2, R2⟩ := op_house (ro := ab_ro L xs) (xs (nI j + 1).toNatClampNeg) (xs (nI j + 2).toNatClampNeg) mi ml R
    exact ⟨v1, v2, r, m1, l1, s1, v1, v2, r, m2, l2, s2, fun _ => fin R2, fun q => absurd rfl q⟩
  · obtain ⟨r, m1, l1, m2, l2, s1, s2, R2⟩ := op_allowed (ro := ab_ro L xs) (xs (nI j + 1).toNatClampNeg) mi ml R
    exact ⟨v1, r, m1, l1, s1, v1, r, m2, l2, s2, fun _ => fin R2, fun q => absurd rfl q⟩
  · obtain ⟨r, m1, l1, m2, l2, s1, s2, R2⟩ := op_rule (ro := ab_ro L xs) (xs (nI j + 1).toNatClampNeg) mi ml R
    exact ⟨v1, r, m1, l1, s1, v1, r, m2, l2, s2, fun _ => fin R2, fun q => absurd rfl q⟩
  · obtain ⟨r, m1, l1, m2, l2, s1, s2, R2⟩ := op_line (ro := ab_ro L xs) (xs (nI j + 1).toNatClampNeg) (xs (nI j + 2).toNatClampNeg) mi ml R
    exact ⟨v1, v2, r, m1, l1, s1, v1, v2, r, m2, l2, s2, fun _ => fin R2, fun q => absurd rfl q⟩
  · obtain ⟨r, m1, l1, m2, l2, s1, s2, R2⟩ := op_look (ro := ab_ro L xs) (xs (nI j + 1).toNatClampNeg) (xs (nI j + 2).toNatClampNeg) mi ml R
    exact ⟨v1, v2, r, m1, l1, s1, v1, v2, r, m2, l2, s2, fun _ => fin R2, fun q => absurd rfl q⟩
  · obtain ⟨r, m1, l1, m2, l2, s1, s2, R2⟩ := op_ground (L := L) (xs := xs) (xs (nI j + 1).toNatClampNeg) mi ml R
    exact ⟨v1, r, m1, l1, s1, v1, r, m2, l2, s2, fun _ => fin R2, fun q => absurd rfl q⟩
  · obtain ⟨r, m1, l1, m2, l2, s1, s2, R2⟩ := op_held (ro := ab_ro L xs) (xs (nI j + 1).toNatClampNeg) (xs (nI j + 2).toNatClampNeg) mi ml R
    exact ⟨v1, v2, r, m1, l1, s1, v1, v2, r, m2, l2, s2, fun _ => fin R2, fun q => absurd rfl q⟩
  · obtain ⟨r, m1, l1, m2, l2, s1, s2, R2⟩ := op_group (ro := ab_ro L xs) (xs (nI j + 1).toNatClampNeg) (xs (nI j + 2).toNatClampNeg) mi ml R
    exact ⟨v1, v2, r, m1, l1, s1, v1, v2, r, m2, l2, s2, fun _ => fin R2, fun q => absurd rfl q⟩
  · obtain ⟨r, m1, l1, m2, l2, s1, s2, R2⟩ := op_clash (ro := ab_ro L xs) (xs (nI j + 1).toNatClampNeg) (xs (nI j + 2).toNatClampNeg) mi ml R
    exact ⟨v1, v2, r, m1, l1, s1, v1, v2, r, m2, l2, s2, fun _ => fin R2, fun q => absurd rfl q⟩
  · obtain ⟨r, m1, l1, m2, l2, s1, s2, R2⟩ := op_together (ro := ab_ro L xs) (xs (nI j + 1).toNatClampNeg) mi ml R
    exact ⟨v1, r, m1, l1, s1, v1, r, m2, l2, s2, fun _ => fin R2, fun q => absurd rfl q⟩
  · obtain ⟨r, m1, l1, m2, l2, s1, s2, R2⟩ := op_least (ro := ab_ro L xs) (xs (nI j + 1).toNatClampNeg) mi ml R
    exact ⟨v1, r, m1, l1, s1, v1, r, m2, l2, s2, fun _ => fin R2, fun q => absurd rfl q⟩
  · obtain ⟨r, m1, l1, m2, l2, s1, s2, R2⟩ := op_leastSet (ro := ab_ro L xs) (xs (nI j + 1).toNatClampNeg) (xs (nI j + 2).toNatClampNeg) mi ml R
    exact ⟨v1, v2, r, m1, l1, s1, v1, v2, r, m2, l2, s2, fun _ => fin R2, fun q => absurd rfl q⟩
  · obtain ⟨r, m1, l1, m2, l2, s1, s2, R2⟩ := op_draft (ro := ab_ro L xs) (xs (nI j + 1).toNatClampNeg) (xs (nI j + 2).toNatClampNeg) mi ml R
    exact ⟨v1, v2, r, m1, l1, s1, v1, v2, r, m2, l2, s2, fun _ => fin R2, fun q => absurd rfl q⟩
  · obtain ⟨r, m1, l1, m2, l2, s1, s2, R2⟩ := op_why (ro := ab_ro L xs) (xs (nI j + 1).toNatClampNeg) (xs (nI j + 2).toNatClampNeg) (xs (nI j + 3).toNatClampNeg) mi ml R
    exact ⟨v1, v2, v3, r, m1, l1, s1, v1, v2, v3, r, m2, l2, s2, fun _ => fin R2, fun q => absurd rfl q⟩
  · refine ⟨v1, v2, v3, fun c3 => ?_, fun c3 => ?_⟩
    · obtain ⟨r, m1, l1, m2, l2, s1, s2, R2⟩ := op_vote (ro := ab_ro L xs) (xs (nI j + 1).toNatClampNeg) (xs (nI j + 2).toNatClampNeg) false mi ml R
      exact ⟨r, m1, l1, s1, v1, v2, v3, ⟨fun _ => ⟨r, m2, l2, s2, fun _ => fin R2, fun q => absurd rfl q⟩, fun q => absurd c3 q⟩⟩
    · obtain ⟨r, m1, l1, m2, l2, s1, s2, R2⟩ := op_vote (ro := ab_ro L xs) (xs (nI j + 1).toNatClampNeg) (xs (nI j + 2).toNatClampNeg) true mi ml R
      exact ⟨r, m1, l1, s1, v1, v2, v3, ⟨fun q => absurd q c3, fun _ => ⟨r, m2, l2, s2, fun _ => fin R2, fun q => absurd rfl q⟩⟩⟩
  · obtain ⟨r, m1, l1, m2, l2, s1, s2, R2⟩ := op_votes (ro := ab_ro L xs) (xs (nI j + 1).toNatClampNeg) mi ml R
    exact ⟨v1, r, m1, l1, s1, v1, r, m2, l2, s2, fun _ => fin R2, fun q => absurd rfl q⟩
  · obtain ⟨r, m1, l1, m2, l2, s1, s2, R2⟩ := op_favour (ro := ab_ro L xs) (xs (nI j + 1).toNatClampNeg) (xs (nI j + 2).toNatClampNeg) mi ml R
    exact ⟨v1, v2, r, m1, l1, s1, v1, v2, r, m2, l2, s2, fun _ => fin R2, fun q => absurd rfl q⟩
  · obtain ⟨r, m1, l1, m2, l2, s1, s2, R2⟩ := op_gain (ro := ab_ro L xs) (xs (nI j + 1).toNatClampNeg) mi ml R
    exact ⟨v1, r, m1, l1, s1, v1, r, m2, l2, s2, fun _ => fin R2, fun q => absurd rfl q⟩
  · obtain ⟨r, m1, l1, m2, l2, s1, s2, R2⟩ := op_world (ro := ab_ro L xs) (xs (nI j + 1).toNatClampNeg) mi ml R
    exact ⟨v1, r, m1, l1, s1, v1, r, m2, l2, s2, fun _ => fin R2, fun q => absurd rfl q⟩
  · obtain ⟨r, m1, l1, m2, l2, s1, s2, R2⟩ := op_cases (ro := ab_ro L xs) (xs (nI j + 1).toNatClampNeg) (xs (nI j + 2).toNatClampNeg) mi ml R
    exact ⟨v1, v2, r, m1, l1, s1, v1, v2, r, m2, l2, s2, fun _ => fin R2, fun q => absurd rfl q⟩
  · obtain ⟨r, m1, l1, m2, l2, s1, s2, R2⟩ := op_blamed (ro := ab_ro L xs) (xs (nI j + 1).toNatClampNeg) (xs (nI j + 2).toNatClampNeg) mi ml R
    exact ⟨v1, v2, r, m1, l1, s1, v1, v2, r, m2, l2, s2, fun _ => fin R2, fun q => absurd rfl q⟩
  · obtain ⟨r, m1, l1, m2, l2, s1, s2, R2⟩ := op_idle (ro := ab_ro L xs) (xs (nI j + 1).toNatClampNeg) mi ml R
    exact ⟨v1, r, m1, l1, s1, v1, r, m2, l2, s2, fun _ => fin R2, fun q => absurd rfl q⟩
  · obtain ⟨r, m1, l1, m2, l2, s1, s2, R2⟩ := op_fewest (ro := ab_ro L xs) (xs (nI j + 1).toNatClampNeg) mi ml R
    exact ⟨v1, r, m1, l1, s1, v1, r, m2, l2, s2, fun _ => fin R2, fun q => absurd rfl q⟩
  · obtain ⟨r, m1, l1, m2, l2, s1, s2, R2⟩ := op_beside (ro := ab_ro L xs) (xs (nI j + 1).toNatClampNeg) (xs (nI j + 2).toNatClampNeg) mi ml R
    exact ⟨v1, v2, r, m1, l1, s1, v1, v2, r, m2, l2, s2, fun _ => fin R2, fun q => absurd rfl q⟩
  · refine ⟨v1, Or.inr ⟨mi, ml, ?_, R, j7⟩⟩
    rw [e1]
set_option maxHeartbeats 1000000 in
theorem lw_second {L : Nat} {xs : Nat → Int32} (hL : L ≤ 3584) {j : Nat} {mi : cM1} {ml : cM2} (R : Rel mi ml) : ∃ r mi' ml', lw_H L xs mi ml (xs (j + 1)) r mi' ml' ∧ (j + 7 ≤ L → lw_run L xs (lw_End Rel L j) (1259, lw_ll (nI j) none none, [.int r], 0, 0, ab_G mi' ml')) := by
  obtain ⟨O, OM, K⟩ := id R
  have v1 : j + 7 ≤ L → vp_in (nI j + 1) L := fun h => by rw [show nI j + 1 = nI (j + 1) from nI_add j 1]; exact in_of (by omega) (by omega)
  have e1 : j + 7 ≤ L → (nI j + 1).toNatClampNeg = j + 1 := fun h => by rw [show nI j + 1 = nI (j + 1) from nI_add j 1, nI_clamp (by omega)]
  by_cases hx : ∃ w, w < 9 + 1 ∧ xs (j + 1) = nI w
  · obtain ⟨k, hk, ek⟩ := hx
    obtain ⟨m1, l1, s1, P1⟩ := c_count (ro := ab_ro L xs) O ⟨eqP.rf mi ml, K⟩ hk
    refine ⟨0, m1, ab_ul l1 83 0 (cntR mi ml k).toInt64, Or.inr ⟨cntR mi ml k, l1, by rw [ek]; exact s1, rfl, rfl⟩, fun j7 => ?_⟩
    have H : eqM mi ml m1 l1 m1 (ab_ul l1 83 0 (cntR mi ml k).toInt64) := ⟨fun a b q => P1.1.1 a b (by
        have := lm_40 q
        unfold lsI
        rw [show Nat.ble 40 a = true from Nat.ble_eq_true_of_le this, Bool.or_true]), fun a b q => by
        have h40 : 40 ≤ a ∧ ¬ a = 83 := by
          unfold lmL at q
          simp only [Bool.or_eq_true, beqT] at q
          omega
        rw [ul_app, if_neg h40.2]
        exact P1.1.2 a b (by
          unfold lsL
          rw [show Nat.ble 40 a = true from Nat.ble_eq_true_of_le h40.1, Bool.or_true]), fun _ _ => rfl, fun a ha => by
        funext b
        rw [ul_app, if_neg (by omega)]⟩
    obtain ⟨m2, l2, s2, H2, t0, e83⟩ := m_count (ro := ab_ro L xs) O OM H hk
    have s3 : cS (ab_ro L xs) 40 144 [.ref 40] m2 l2 (some (.int 0)) m2 l2 := by
      have := s_thrown (ro := ab_ro L xs) (d := 39) (mi := m2) (ml := l2)
      rw [t0] at this; exact this
    refine vl_1259 (nI j) 0 m1 _ ⟨v1 j7, cntR mi ml k, m2, l2, ?_, 0, m2, l2, s3, fun _ => ⟨fun _ => ⟨fun _ => ⟨m2, l2, _, _, rfl, Rel_q O OM P1 H2, j7⟩, fun q => absurd ?_ q⟩, fun q => absurd rfl q⟩, fun q => absurd rfl q⟩
    · rw [e1 j7, ek]; exact s2
    · rw [e83, ul_app, if_pos rfl, if_pos rfl]; exact cmp_s _
  · refine ⟨1, mi, ml, Or.inl ⟨no_of hx, rfl, rfl, rfl⟩, fun j7 => ?_⟩
    have H : eqM mi ml mi ml mi ml := ⟨fun _ _ _ => rfl, fun _ _ _ => rfl, fun _ _ => rfl, fun _ _ => rfl⟩
    obtain ⟨r, m2, l2, s2, H2, t1⟩ := m_count_no (ro := ab_ro L xs) H hx
    have s3 : cS (ab_ro L xs) 40 144 [.ref 40] m2 l2 (some (.int 1)) m2 l2 := by
      have := s_thrown (ro := ab_ro L xs) (d := 39) (mi := m2) (ml := l2)
      rw [t1] at this; exact this
    refine vl_1259 (nI j) 1 mi ml ⟨v1 j7, r, m2, l2, ?_, 1, m2, l2, s3, fun _ => ⟨fun q => absurd q (by decide), fun _ => ⟨m2, l2, _, _, rfl, Rel_q O OM ⟨eqP.rf mi ml, K⟩ H2, j7⟩⟩, fun q => absurd rfl q⟩
    rw [e1 j7]; exact s2
theorem lw_all : lw_Steps Rel := fun _ _ hL _ _ _ hj R => ⟨lw_first hL hj R, lw_second hL R⟩
end ST
