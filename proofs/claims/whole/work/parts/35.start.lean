theorem ab_K_start {args : Array Value} {s : State} (hts : ∀ w ∈ lw_tbl, w.before args s = true) : ∃ (D : va_G) (cy : Nat → ClassId), va_K D ab_cl (ab_tys cy) s := by
  have h1 : ∀ k : Nat, ∃ q : ClassId × (Nat → Nat), k < 13 → u_Kn s (ab_own k) (ab_T k) (ab_fn k) q.1 q.2 := by
    intro k
    by_cases hk : k < 13
    · obtain ⟨c, i, h⟩ := u_known (C := ab_own k) (T := ab_T k) (N := ab_fn k) (n := ab_fn k) hts (fun w hw => (List.mem_filter.mp (ab_lays hk w hw)).1) (hts _ (ab_clP_ok k hk).1)
      exact ⟨(c, i), fun _ => h⟩
    · exact ⟨(0, fun _ => 0), fun h => absurd h hk⟩
  have h2 : ∀ t : Nat, ∃ c : ClassId, t < 4 → ArrOfT s c (ab_at t) ∧ va_RA s c (ab_at t) := by
    intro t
    by_cases ht : t < 4
    · have hw : (Cond.arrayClass (ab_at t)).before args s = true := by
        match t, ht with
        | 0, _ => exact hts _ ab_arr.1
        | 1, _ => exact hts _ ab_arr.2.1
        | 2, _ => exact hts _ ab_arr.2.2.1
        | 3, _ => exact hts _ ab_arr.2.2.2
      obtain ⟨c, k, comp, q1, q2, q3⟩ := Cond.arrayClass_spec hw
      refine ⟨c, fun _ => ⟨fun n z => ⟨fun k h => (by cases h), k, q2, comp, q3⟩, ?_⟩⟩
      match t, ht, q1 with
      | 0, _, q1 => exact q1
      | 1, _, q1 => exact q1
      | 2, _, q1 => exact q1
      | 3, _, q1 => exact q1
    · exact ⟨0, fun h => absurd h ht⟩
  obtain ⟨f, hf⟩ := Classical.axiomOfChoice h1
  obtain ⟨cy, hcy⟩ := Classical.axiomOfChoice h2
  refine ⟨(fun k => (f k).1, fun k => (f k).2), cy, fun k q hq => ?_, fun k q hq => ?_⟩
  · have hk : k < 13 := (List.getElem?_eq_some_iff.mp hq).1
    rw [ab_clat hk] at hq
    cases hq
    exact hf k hk
  · have hk : k < 4 := (List.getElem?_eq_some_iff.mp hq).1
    rw [ab_tyat hk] at hq
    cases hq
    exact hcy k hk

def ab_aa (base b tl th : Nat) (al tls : List Nat) : Nat → Nat := fun x => if x < 1000 then base + x else if x = 1000220 then b else if x = 1000200 then tl else if x = 1000201 then th else if x < 1000100 then al.getD (x - 1000000) 0 else tls.getD (x - 1000100) 0
theorem ab_aa_t {base b tl th : Nat} {al tls : List Nat} {j : Nat} (h : j < 15) : ab_aa base b tl th al tls (1000100 + j) = tls.getD j 0 := by
  unfold ab_aa
  rw [if_neg (by omega), if_neg (by omega), if_neg (by omega), if_neg (by omega), if_neg (by omega), show 1000100 + j - 1000100 = j by omega]
theorem ab_aa_s {base b tl th : Nat} {al tls : List Nat} {j : Nat} (h : j < 15) : ab_aa base b tl th al tls (ab_B + j) = al.getD j 0 := by
  unfold ab_aa ab_B
  rw [if_neg (by omega), if_neg (by omega), if_neg (by omega), if_neg (by omega), if_pos (by omega), show 1000000 + j - 1000000 = j by omega]
theorem ab_aa_t2 {base b tl th : Nat} {al tls : List Nat} {j : Nat} (h : j < 15) : ab_aa base b tl th al tls (ab_B + j + 100) = tls.getD j 0 := by
  rw [show ab_B + j + 100 = 1000100 + j by unfold ab_B; omega]
  exact ab_aa_t h
theorem ab_ro_inv {L : Nat} {xs : Nat → Int32} {k t n : Nat} {f : Nat → Value} (h : ab_ro L xs k = some (t, n, f)) : (k = 1000220 ∧ t = 0 ∧ n = L ∧ f = fun j => .int (xs j)) ∨ (k = 1000200 ∧ t = 1 ∧ n = 7 ∧ f = fun j => .long (ab_alo j)) ∨ (k = 1000201 ∧ t = 1 ∧ n = 7 ∧ f = fun j => .long (ab_ahi j)) ∨ ∃ j, j < 15 ∧ k = 1000100 + j ∧ t = 3 ∧ n = (ab_sbs.getD j []).length ∧ f = fun i => .int (ab_sb j i) := by
  unfold ab_ro at h
  cases h1 : Nat.beq k 1000220 with
  | true =>
    rw [h1] at h
    cases h
    exact Or.inl ⟨Nat.eq_of_beq_eq_true h1, rfl, rfl, rfl⟩
  | false =>
    rw [h1, cond_false] at h
    cases h2 : Nat.beq k 1000200 with
    | true =>
      rw [h2] at h
      cases h
      exact Or.inr (Or.inl ⟨Nat.eq_of_beq_eq_true h2, rfl, rfl, rfl⟩)
    | false =>
      rw [h2, cond_false] at h
      cases h3 : Nat.beq k 1000201 with
      | true =>
        rw [h3] at h
        cases h
        exact Or.inr (Or.inr (Or.inl ⟨Nat.eq_of_beq_eq_true h3, rfl, rfl, rfl⟩))
      | false =>
        rw [h3, cond_false] at h
        cases h4 : (Nat.ble 1000100 k && Nat.blt k 1000115) with
        | true =>
          rw [h4, cond_true] at h
          have h := Option.some.inj h
          simp only [Prod.mk.injEq] at h
          obtain ⟨rfl, rfl, rfl⟩ := h
          rw [Bool.and_eq_true] at h4
          have e1 := Nat.le_of_ble_eq_true h4.1
          have e2 : k + 1 ≤ 1000115 := Nat.le_of_ble_eq_true h4.2
          exact Or.inr (Or.inr (Or.inr ⟨k - 1000100, by omega, by omega, rfl, rfl, rfl⟩))
        | false =>
          rw [h4] at h
          cases h
/-- what the Statement gives of the start is the abstract machine's environment -/
theorem ab_env_start {s : State} {b L : Nat} {xs : Nat → Int32} (hL : L ≤ 3584) (hts : ∀ w ∈ lw_tbl, w.before #[Value.ref b] s = true) (hX : va_X b L xs s s.heap) (hbl : b < s.heap.size) (hgv : (Jvm.Cond.and given_1 narrow_1).before #[Value.ref b] s = true) :
    ∃ (aa : Nat → Nat) (zv : Value), ab_Env (ab_ro L xs) aa zv (fun q => s.heap.size ≤ q) s s.heap ∧ (∀ x, x < 1000 → aa x = s.heap.size + x) ∧ aa 1000220 = b := by
  have hs := flat_of_before _ hgv
  have hA : ∀ a : Nat, a < s.heap.size → ¬ (fun q : Nat => s.heap.size ≤ q) a := fun a h q => absurd q (Nat.not_le.mpr h)
  obtain ⟨a0, t0, e0, s0⟩ := ab_str0 (A := fun q : Nat => s.heap.size ≤ q) hs hA
  obtain ⟨a1, t1, e1, s1⟩ := ab_str1 (A := fun q : Nat => s.heap.size ≤ q) hs hA
  obtain ⟨a2, t2, e2, s2⟩ := ab_str2 (A := fun q : Nat => s.heap.size ≤ q) hs hA
  obtain ⟨a3, t3, e3, s3⟩ := ab_str3 (A := fun q : Nat => s.heap.size ≤ q) hs hA
  obtain ⟨a4, t4, e4, s4⟩ := ab_str4 (A := fun q : Nat => s.heap.size ≤ q) hs hA
  obtain ⟨a5, t5, e5, s5⟩ := ab_str5 (A := fun q : Nat => s.heap.size ≤ q) hs hA
  obtain ⟨a6, t6, e6, s6⟩ := ab_str6 (A := fun q : Nat => s.heap.size ≤ q) hs hA
  obtain ⟨a7, t7, e7, s7⟩ := ab_str7 (A := fun q : Nat => s.heap.size ≤ q) hs hA
  obtain ⟨a8, t8, e8, s8⟩ := ab_str8 (A := fun q : Nat => s.heap.size ≤ q) hs hA
  obtain ⟨a9, t9, e9, s9⟩ := ab_str9 (A := fun q : Nat => s.heap.size ≤ q) hs hA
  obtain ⟨a10, t10, e10, s10⟩ := ab_str10 (A := fun q : Nat => s.heap.size ≤ q) hs hA
  obtain ⟨a11, t11, e11, s11⟩ := ab_str11 (A := fun q : Nat => s.heap.size ≤ q) hs hA
  obtain ⟨a12, t12, e12, s12⟩ := ab_str12 (A := fun q : Nat => s.heap.size ≤ q) hs hA
  obtain ⟨a13, t13, e13, s13⟩ := ab_str13 (A := fun q : Nat => s.heap.size ≤ q) hs hA
  obtain ⟨a14, t14, e14, s14⟩ := ab_str14 (A := fun q : Nat => s.heap.size ≤ q) hs hA
  obtain ⟨tl, el, hTl⟩ := ab_alo_T (A := fun q : Nat => s.heap.size ≤ q) hs hA
  obtain ⟨th, eh, hTh⟩ := ab_ahi_T (A := fun q : Nat => s.heap.size ≤ q) hs hA
  obtain ⟨zv, hzc, hzv⟩ : ∃ zv : Value, zv.category = 1 ∧ va_Z "jdk/internal/util/Preconditions" "SIOOBE_FORMATTER" "Ljava/util/function/BiFunction;" zv (fun q : Nat => s.heap.size ≤ q) s s.heap := by
    rcases va_Zqof (A := fun q : Nat => s.heap.size ≤ q) (hts _ (ab_in3 (List.mem_of_getElem? (i := 35) rfl))) (hts _ (ab_in1 (List.mem_of_getElem? (i := 17) rfl))) (hs _ (List.mem_of_getElem? (i := 5) rfl)) hA with h | ⟨t, h⟩
    · exact ⟨.null, rfl, h⟩
    · exact ⟨.ref t, rfl, h⟩
  refine ⟨ab_aa s.heap.size b tl th [a0, a1, a2, a3, a4, a5, a6, a7, a8, a9, a10, a11, a12, a13, a14] [t0, t1, t2, t3, t4, t5, t6, t7, t8, t9, t10, t11, t12, t13, t14], zv, ⟨?_, ?_, ?_, ?_, ?_, ?_, hzc⟩, fun x hx => by unfold ab_aa; rw [if_pos hx], rfl⟩
  · intro k t n f hr
    rcases ab_ro_inv hr with ⟨rfl, rfl, rfl, rfl⟩ | ⟨rfl, rfl, rfl, rfl⟩ | ⟨rfl, rfl, rfl, rfl⟩ | ⟨j, hj, rfl, rfl, rfl, rfl⟩
    · obtain ⟨scr, h1, h2, h3, h4, h5⟩ := hX
      exact ⟨scr, h1, h2, h3, by rw [h4]; exact Nat.le_refl _, by rw [h4]; first | done | rfl, h5, hA b hbl⟩
    · exact hTl
    · exact hTh
    · rw [ab_aa_t hj]
      clear hr
      match j, hj with
      | 0, _ => exact s0.2.2.2
      | 1, _ => exact s1.2.2.2
      | 2, _ => exact s2.2.2.2
      | 3, _ => exact s3.2.2.2
      | 4, _ => exact s4.2.2.2
      | 5, _ => exact s5.2.2.2
      | 6, _ => exact s6.2.2.2
      | 7, _ => exact s7.2.2.2
      | 8, _ => exact s8.2.2.2
      | 9, _ => exact s9.2.2.2
      | 10, _ => exact s10.2.2.2
      | 11, _ => exact s11.2.2.2
      | 12, _ => exact s12.2.2.2
      | 13, _ => exact s13.2.2.2
      | 14, _ => exact s14.2.2.2
  · intro j hj
    rw [ab_aa_s hj, ab_aa_t2 hj]
    match j, hj with
    | 0, _ => exact ⟨s0.1, s0.2.1, s0.2.2.1⟩
    | 1, _ => exact ⟨s1.1, s1.2.1, s1.2.2.1⟩
    | 2, _ => exact ⟨s2.1, s2.2.1, s2.2.2.1⟩
    | 3, _ => exact ⟨s3.1, s3.2.1, s3.2.2.1⟩
    | 4, _ => exact ⟨s4.1, s4.2.1, s4.2.2.1⟩
    | 5, _ => exact ⟨s5.1, s5.2.1, s5.2.2.1⟩
    | 6, _ => exact ⟨s6.1, s6.2.1, s6.2.2.1⟩
    | 7, _ => exact ⟨s7.1, s7.2.1, s7.2.2.1⟩
    | 8, _ => exact ⟨s8.1, s8.2.1, s8.2.2.1⟩
    | 9, _ => exact ⟨s9.1, s9.2.1, s9.2.2.1⟩
    | 10, _ => exact ⟨s10.1, s10.2.1, s10.2.2.1⟩
    | 11, _ => exact ⟨s11.1, s11.2.1, s11.2.2.1⟩
    | 12, _ => exact ⟨s12.1, s12.2.1, s12.2.2.1⟩
    | 13, _ => exact ⟨s13.1, s13.2.1, s13.2.2.1⟩
    | 14, _ => exact ⟨s14.1, s14.2.1, s14.2.2.1⟩
  · exact List.forall_mem_cons.mpr ⟨vk_R.of (hts _ (ab_in3 (List.mem_of_getElem? (i := 58) rfl))) e0, List.forall_mem_cons.mpr ⟨vk_R.of (hts _ (ab_in3 (List.mem_of_getElem? (i := 5) rfl))) e1, List.forall_mem_cons.mpr ⟨vk_R.of (hts _ (ab_in3 (List.mem_of_getElem? (i := 159) rfl))) e2, List.forall_mem_cons.mpr ⟨vk_R.of (hts _ (ab_in3 (List.mem_of_getElem? (i := 155) rfl))) e3, List.forall_mem_cons.mpr ⟨vk_R.of (hts _ (ab_in3 (List.mem_of_getElem? (i := 156) rfl))) e4, List.forall_mem_cons.mpr ⟨vk_R.of (hts _ (ab_in3 (List.mem_of_getElem? (i := 157) rfl))) e5, List.forall_mem_cons.mpr ⟨vk_R.of (hts _ (ab_in3 (List.mem_of_getElem? (i := 158) rfl))) e6, List.forall_mem_cons.mpr ⟨vk_R.of (hts _ (ab_in3 (List.mem_of_getElem? (i := 125) rfl))) e7, List.forall_mem_cons.mpr ⟨vk_R.of (hts _ (ab_in3 (List.mem_of_getElem? (i := 124) rfl))) e8, List.forall_mem_cons.mpr ⟨vk_R.of (hts _ (ab_in3 (List.mem_of_getElem? (i := 81) rfl))) e9, List.forall_mem_cons.mpr ⟨vk_R.of (hts _ (ab_in3 (List.mem_of_getElem? (i := 82) rfl))) e10, List.forall_mem_cons.mpr ⟨vk_R.of (hts _ (ab_in3 (List.mem_of_getElem? (i := 83) rfl))) e11, List.forall_mem_cons.mpr ⟨vk_R.of (hts _ (ab_in3 (List.mem_of_getElem? (i := 84) rfl))) e12, List.forall_mem_cons.mpr ⟨vk_R.of (hts _ (ab_in3 (List.mem_of_getElem? (i := 85) rfl))) e13, List.forall_mem_cons.mpr ⟨vk_R.of (hts _ (ab_in3 (List.mem_of_getElem? (i := 106) rfl))) e14, List.forall_mem_nil _⟩⟩⟩⟩⟩⟩⟩⟩⟩⟩⟩⟩⟩⟩⟩
  · exact List.forall_mem_cons.mpr ⟨va_Zof (hts _ (ab_in3 (List.mem_of_getElem? (i := 91) rfl))) (hts _ (ab_in1 (List.mem_of_getElem? (i := 1) rfl))) el hA, List.forall_mem_cons.mpr ⟨va_Zof (hts _ (ab_in3 (List.mem_of_getElem? (i := 93) rfl))) (hts _ (ab_in1 (List.mem_of_getElem? (i := 1) rfl))) eh hA, List.forall_mem_cons.mpr ⟨va_Zof (hts _ (ab_in3 (List.mem_of_getElem? (i := 19) rfl))) (hts _ (ab_in1 (List.mem_of_getElem? (i := 15) rfl))) (va_eqi (hs _ (List.mem_of_getElem? (i := 4) rfl))) hA, List.forall_mem_cons.mpr ⟨hzv, List.forall_mem_nil _⟩⟩⟩⟩
  · exact fun q hq => va_Nw.of (by unfold ab_nfw; split <;> rfl) (hts _ (ab_nf_ok q hq))
  · exact fun q hq => va_Nw.of rfl (hts _ (ab_nm_ok q hq))
