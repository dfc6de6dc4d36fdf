/-! What a step tells of its stack. -/
section ABI
variable {P : Prop} {nx : ab_N} {pc : Nat} {ll : ab_L} {st : List Value} {c s : Nat} {g : ab_S}
theorem ab_r_ii {f : Int32 → Int32 → Int32} (h : ab_ii f pc ll st c s g = some (P, nx)) : ∃ (x y : Int32) (r : List Value), st = .int y :: .int x :: r ∧ nx = .inl (pc, ll, .int (f x y) :: r, c, s, g) := by
  unfold ab_ii at h
  split at h
  · cases h
    exact ⟨_, _, _, rfl, rfl⟩
  · cases h
theorem ab_r_jj {f : Int64 → Int64 → Int64} (h : ab_jj f pc ll st c s g = some (P, nx)) : ∃ (x y : Int64) (r : List Value), st = .long y :: .long x :: r ∧ nx = .inl (pc, ll, .long (f x y) :: r, c, s, g) := by
  unfold ab_jj at h
  split at h
  · cases h
    exact ⟨_, _, _, rfl, rfl⟩
  · cases h
theorem ab_r_ji {f : Int64 → Int32 → Int64} (h : ab_ji f pc ll st c s g = some (P, nx)) : ∃ (x : Int64) (y : Int32) (r : List Value), st = .int y :: .long x :: r ∧ nx = .inl (pc, ll, .long (f x y) :: r, c, s, g) := by
  unfold ab_ji at h
  split at h
  · cases h
    exact ⟨_, _, _, rfl, rfl⟩
  · cases h
theorem ab_r_i1 {f : Int32 → Value} (h : ab_i1 f pc ll st c s g = some (P, nx)) : ∃ (x : Int32) (r : List Value), st = .int x :: r ∧ nx = .inl (pc, ll, f x :: r, c, s, g) := by
  unfold ab_i1 at h
  split at h
  · cases h
    exact ⟨_, _, rfl, rfl⟩
  · cases h
theorem ab_r_j1 {f : Int64 → Value} (h : ab_j1 f pc ll st c s g = some (P, nx)) : ∃ (x : Int64) (r : List Value), st = .long x :: r ∧ nx = .inl (pc, ll, f x :: r, c, s, g) := by
  unfold ab_j1 at h
  split at h
  · cases h
    exact ⟨_, _, rfl, rfl⟩
  · cases h
theorem ab_r_c1 {f : Int32 → Nat} (h : ab_c1 f ll st c s g = some (P, nx)) : ∃ (x : Int32) (r : List Value), st = .int x :: r ∧ nx = .inl (f x, ll, r, c, s, g) := by
  unfold ab_c1 at h
  split at h
  · cases h
    exact ⟨_, _, rfl, rfl⟩
  · cases h
theorem ab_r_c2 {f : Int32 → Int32 → Nat} (h : ab_c2 f ll st c s g = some (P, nx)) : ∃ (x y : Int32) (r : List Value), st = .int y :: .int x :: r ∧ nx = .inl (f x y, ll, r, c, s, g) := by
  unfold ab_c2 at h
  split at h
  · cases h
    exact ⟨_, _, _, rfl, rfl⟩
  · cases h
theorem ab_r_ldi {a : Nat} (h : ab_ldi a pc ll st c s g = some (P, nx)) : ∃ (x : Int32), ll[a]? = some (some (.int x)) ∧ nx = .inl (pc, ll, .int x :: st, c, s, g) := by
  unfold ab_ldi at h
  split at h
  · rename_i q
    cases h
    exact ⟨_, q, rfl⟩
  · cases h
theorem ab_r_ldj {a : Nat} (h : ab_ldj a pc ll st c s g = some (P, nx)) : ∃ (x : Int64), ll[a]? = some (some (.long x)) ∧ nx = .inl (pc, ll, .long x :: st, c, s, g) := by
  unfold ab_ldj at h
  split at h
  · rename_i q
    cases h
    exact ⟨_, q, rfl⟩
  · cases h
theorem ab_r_lda {a : Nat} (h : ab_lda a pc ll st c s g = some (P, nx)) : ∃ (x : Nat), ll[a]? = some (some (.ref x)) ∧ nx = .inl (pc, ll, .ref x :: st, c, s, g) := by
  unfold ab_lda at h
  split at h
  · rename_i q
    cases h
    exact ⟨_, q, rfl⟩
  · cases h
theorem ab_r_sti {a : Nat} (h : ab_sti a pc ll st c s g = some (P, nx)) : ∃ (x : Int32) (r : List Value), st = .int x :: r ∧ a < ll.length ∧ nx = .inl (pc, ab_s1 ll a (.int x), r, c, s, g) := by
  unfold ab_sti at h
  split at h
  · cases hq : Nat.blt a ll.length with
    | true =>
      rw [hq] at h
      cases h
      exact ⟨_, _, rfl, Nat.le_of_ble_eq_true hq, rfl⟩
    | false =>
      rw [hq] at h
      cases h
  · cases h
theorem ab_r_sta {a : Nat} (h : ab_sta a pc ll st c s g = some (P, nx)) : ∃ (x : Nat) (r : List Value), st = .ref x :: r ∧ a < ll.length ∧ nx = .inl (pc, ab_s1 ll a (.ref x), r, c, s, g) := by
  unfold ab_sta at h
  split at h
  · cases hq : Nat.blt a ll.length with
    | true =>
      rw [hq] at h
      cases h
      exact ⟨_, _, rfl, Nat.le_of_ble_eq_true hq, rfl⟩
    | false =>
      rw [hq] at h
      cases h
  · cases h
theorem ab_r_stj {a : Nat} (h : ab_stj a pc ll st c s g = some (P, nx)) : ∃ (x : Int64) (r : List Value), st = .long x :: r ∧ a + 1 < ll.length ∧ nx = .inl (pc, ab_s2 ll a (.long x), r, c, s, g) := by
  unfold ab_stj at h
  split at h
  · cases hq : Nat.blt (a + 1) ll.length with
    | true =>
      rw [hq] at h
      cases h
      exact ⟨_, _, rfl, Nat.le_of_ble_eq_true hq, rfl⟩
    | false =>
      rw [hq] at h
      cases h
  · cases h
theorem ab_r_inc {a : Nat} {v : Value} (h : ab_inc a v pc ll st c s g = some (P, nx)) : ∃ (x y : Int32), ll[a]? = some (some (.int x)) ∧ v = .int y ∧ a < ll.length ∧ nx = .inl (pc, ab_s1 ll a (.int (x + y)), st, c, s, g) := by
  unfold ab_inc at h
  split at h
  · rename_i q
    split at h
    · cases hq : Nat.blt a ll.length with
      | true =>
        rw [hq] at h
        cases h
        exact ⟨_, _, q, rfl, Nat.le_of_ble_eq_true hq, rfl⟩
      | false =>
        rw [hq] at h
        cases h
    · cases h
  · cases h
theorem ab_r_dv  (h : ab_dv pc ll st c s g = some (P, nx)) : ∃ (x y : Int32) (r : List Value), st = .int y :: .int x :: r ∧ P = (¬ y = 0) ∧ nx = .inl (pc, ll, .int (x / y) :: r, c, s, g) := by
  unfold ab_dv at h
  split at h
  · cases h
    exact ⟨_, _, _, rfl, rfl, rfl⟩
  · cases h
theorem ab_r_cm  (h : ab_cm pc ll st c s g = some (P, nx)) : ∃ (x y : Int64) (r : List Value), st = .long y :: .long x :: r ∧ nx = .inl (pc, ll, .int (lg_cmp x y) :: r, c, s, g) := by
  unfold ab_cm at h
  split at h
  · cases h
    exact ⟨_, _, _, rfl, rfl⟩
  · cases h
theorem ab_r_du  (h : ab_du pc ll st c s g = some (P, nx)) : ∃ (x : Value) (r : List Value), st = x :: r ∧ x.category = 1 ∧ nx = .inl (pc, ll, x :: x :: r, c, s, g) := by
  unfold ab_du at h
  split at h
  · rename_i x r
    cases hq : Nat.beq x.category 1 with
    | true =>
      rw [hq] at h
      cases h
      exact ⟨_, _, rfl, Nat.eq_of_beq_eq_true hq, rfl⟩
    | false =>
      rw [hq] at h
      cases h
  · cases h
theorem ab_r_po  (h : ab_po pc ll st c s g = some (P, nx)) : ∃ (x : Value) (r : List Value), st = x :: r ∧ x.category = 1 ∧ nx = .inl (pc, ll, r, c, s, g) := by
  unfold ab_po at h
  split at h
  · rename_i x r
    cases hq : Nat.beq x.category 1 with
    | true =>
      rw [hq] at h
      cases h
      exact ⟨_, _, rfl, Nat.eq_of_beq_eq_true hq, rfl⟩
    | false =>
      rw [hq] at h
      cases h
  · cases h
theorem ab_r_d2  (h : ab_d2 pc ll st c s g = some (P, nx)) : ∃ (x y : Value) (r : List Value), st = x :: y :: r ∧ x.category = 1 ∧ y.category = 1 ∧ nx = .inl (pc, ll, x :: y :: x :: y :: r, c, s, g) := by
  unfold ab_d2 at h
  split at h
  · rename_i x y r
    cases hq : (Nat.beq x.category 1 && Nat.beq y.category 1) with
    | true =>
      rw [hq] at h
      cases h
      rw [Bool.and_eq_true] at hq
      exact ⟨_, _, _, rfl, Nat.eq_of_beq_eq_true hq.1, Nat.eq_of_beq_eq_true hq.2, rfl⟩
    | false =>
      rw [hq] at h
      cases h
  · cases h
theorem ab_r_nw {mc ms a b : Nat} (h : ab_nw mc ms a b pc ll st c s g = some (P, nx)) : c + 1 ≤ mc ∧ s + b ≤ ms ∧ g.1.length < 1000 ∧ g.2.1.length = g.1.length ∧ nx = .inl (pc, ll, .ref g.1.length :: st, c + 1, s + b, g.1 ++ [.inr a], g.2.1 ++ [List.replicate b none], ab_zi g.2.2.1 g.1.length, ab_zl g.2.2.2 g.1.length) := by
  unfold ab_nw at h
  cases hq : (Nat.ble (c + 1) mc && Nat.ble (s + b) ms && Nat.blt g.1.length 1000 && Nat.beq g.2.1.length g.1.length) with
  | true =>
    rw [hq] at h
    cases h
    simp only [Bool.and_eq_true] at hq
    exact ⟨Nat.le_of_ble_eq_true hq.1.1.1, Nat.le_of_ble_eq_true hq.1.1.2, Nat.le_of_ble_eq_true hq.1.2, Nat.eq_of_beq_eq_true hq.2, rfl⟩
  | false =>
    rw [hq] at h
    cases h
theorem ab_r_na {mc ms a b : Nat} (h : ab_na mc ms a b pc ll st c s g = some (P, nx)) : ∃ (n : Int32) (r : List Value), st = .int n :: r ∧ c + 1 ≤ mc ∧ s + b ≤ ms ∧ g.1.length < 1000 ∧ g.2.1.length = g.1.length ∧ P = (n.toNatClampNeg = b ∧ ¬ n < 0) ∧ nx = .inl (pc, ll, .ref g.1.length :: r, c + 1, s + b, g.1 ++ [.inl (a, b)], g.2.1 ++ [[]], ab_zi g.2.2.1 g.1.length, ab_zl g.2.2.2 g.1.length) := by
  unfold ab_na at h
  split at h
  · cases hq : (Nat.ble (c + 1) mc && Nat.ble (s + b) ms && Nat.blt g.1.length 1000 && Nat.beq g.2.1.length g.1.length) with
    | true =>
      rw [hq] at h
      cases h
      simp only [Bool.and_eq_true] at hq
      exact ⟨_, _, rfl, Nat.le_of_ble_eq_true hq.1.1.1, Nat.le_of_ble_eq_true hq.1.1.2, Nat.le_of_ble_eq_true hq.1.2, Nat.eq_of_beq_eq_true hq.2, rfl, rfl⟩
    | false =>
      rw [hq] at h
      cases h
  · cases h
theorem ab_r_ob (h : ab_ob pc ll st c s g = some (P, nx)) : ∃ (k : Nat) (r : List Value), st = .ref k :: r ∧ (r.map (fun v => v.category)).sum ≤ 8 ∧ nx = .inl (pc, ll, r, c, s, g) := by
  unfold ab_ob at h
  split at h
  · rename_i r
    cases hq : Nat.ble ((r.map (fun v => v.category)).sum) 8 with
    | true =>
      rw [hq] at h
      cases h
      exact ⟨_, _, rfl, Nat.le_of_ble_eq_true hq, rfl⟩
    | false =>
      rw [hq] at h
      cases h
  · cases h
theorem ab_r_mi2 {mc ms : Nat} (h : ab_mi2 mc ms pc ll st c s g = some (P, nx)) : ∃ (x y : Int32) (r : List Value), st = .int y :: .int x :: r ∧ (r.map (fun v => v.category)).sum ≤ 8 ∧ c ≤ mc ∧ s ≤ ms ∧ nx = .inl (pc, ll, .int (if y < x then y else x) :: r, c, s, g) := by
  unfold ab_mi2 at h
  split at h
  · rename_i y x r
    cases hq : (Nat.ble ((r.map (fun v => v.category)).sum) 8 && Nat.ble c mc && Nat.ble s ms) with
    | true =>
      rw [hq] at h
      cases h
      simp only [Bool.and_eq_true] at hq
      exact ⟨_, _, _, rfl, Nat.le_of_ble_eq_true hq.1.1, Nat.le_of_ble_eq_true hq.1.2, Nat.le_of_ble_eq_true hq.2, rfl⟩
    | false =>
      rw [hq] at h
      cases h
  · cases h
theorem ab_r_rt {mc ms : Nat} {P' : Prop} {v : Option Value} (h : ab_rt mc ms P' v c s g = some (P, nx)) : c ≤ mc ∧ s ≤ ms ∧ P = P' ∧ nx = .inr (.inl (v, g)) := by
  unfold ab_rt at h
  cases hq : (Nat.ble c mc && Nat.ble s ms) with
  | true =>
    rw [hq] at h
    cases h
    simp only [Bool.and_eq_true] at hq
    exact ⟨Nat.le_of_ble_eq_true hq.1, Nat.le_of_ble_eq_true hq.2, rfl, rfl⟩
  | false =>
    rw [hq] at h
    cases h
theorem ab_r_ald {ro : ab_E} {t1 t2 : Nat} (h : ab_ald ro t1 t2 pc ll st c s g = some (P, nx)) : ∃ (i : Int32) (k : Nat) (r : List Value), st = .int i :: .ref k :: r ∧
    ((∃ (t n : Nat), g.1[k]? = some (.inl (t, n)) ∧ (t = t1 ∨ t = t2) ∧ P = vp_in i n ∧ nx = .inl (pc, ll, (cond (Nat.beq t 1) (.long (g.2.2.2 k i.toNatClampNeg)) (.int (g.2.2.1 k i.toNatClampNeg))) :: r, c, s, g)) ∨
     (∃ (t n : Nat) (f : Nat → Value), ro k = some (t, n, f) ∧ (t = t1 ∨ t = t2) ∧ P = vp_in i n ∧ nx = .inl (pc, ll, f i.toNatClampNeg :: r, c, s, g))) := by
  unfold ab_ald at h
  split at h
  · rename_i i k r
    refine ⟨i, k, r, rfl, ?_⟩
    split at h
    · rename_i t n hk
      cases hq : (Nat.beq t t1 || Nat.beq t t2) with
      | true =>
        rw [hq] at h
        cases h
        rw [Bool.or_eq_true] at hq
        exact Or.inl ⟨t, n, hk, hq.imp Nat.eq_of_beq_eq_true Nat.eq_of_beq_eq_true, rfl, rfl⟩
      | false =>
        rw [hq] at h
        cases h
    · cases h
    · split at h
      · rename_i t n f hk
        cases hq : (Nat.beq t t1 || Nat.beq t t2) with
        | true =>
          rw [hq] at h
          cases h
          rw [Bool.or_eq_true] at hq
          exact Or.inr ⟨t, n, f, hk, hq.imp Nat.eq_of_beq_eq_true Nat.eq_of_beq_eq_true, rfl, rfl⟩
        | false =>
          rw [hq] at h
          cases h
      · cases h
  · cases h
theorem ab_r_ast {t1 t2 : Nat} (h : ab_ast t1 t2 pc ll st c s g = some (P, nx)) : ∃ (x i : Int32) (k : Nat) (r : List Value) (t n : Nat), st = .int x :: .int i :: .ref k :: r ∧ g.1[k]? = some (.inl (t, n)) ∧ (t = t1 ∨ t = t2) ∧ P = vp_in i n ∧
    nx = .inl (pc, ll, r, c, s, g.1, g.2.1, ab_ui g.2.2.1 k i.toNatClampNeg (cond (Nat.beq t 0) x (cond (Nat.beq t 2) (vp_nar .boolean x) (vp_nar .byte x))), g.2.2.2) := by
  unfold ab_ast at h
  split at h
  · rename_i x i k r
    split at h
    · rename_i t n hk
      cases hq : (Nat.beq t t1 || Nat.beq t t2) with
      | true =>
        rw [hq] at h
        cases h
        rw [Bool.or_eq_true] at hq
        exact ⟨x, i, k, r, t, n, rfl, hk, hq.imp Nat.eq_of_beq_eq_true Nat.eq_of_beq_eq_true, rfl, rfl⟩
      | false =>
        rw [hq] at h
        cases h
    · cases h
  · cases h
theorem ab_r_lst (h : ab_lst pc ll st c s g = some (P, nx)) : ∃ (x : Int64) (i : Int32) (k : Nat) (r : List Value) (n : Nat), st = .long x :: .int i :: .ref k :: r ∧ g.1[k]? = some (.inl (1, n)) ∧ P = vp_in i n ∧
    nx = .inl (pc, ll, r, c, s, g.1, g.2.1, g.2.2.1, ab_ul g.2.2.2 k i.toNatClampNeg x) := by
  unfold ab_lst at h
  split at h
  · rename_i x i k r
    split at h
    · rename_i t n hk
      cases hq : Nat.beq t 1 with
      | true =>
        rw [hq] at h
        cases h
        have ht : t = 1 := Nat.eq_of_beq_eq_true hq
        subst ht
        exact ⟨x, i, k, r, n, rfl, hk, rfl, rfl⟩
      | false =>
        rw [hq] at h
        cases h
    · cases h
  · cases h
theorem ab_r_len {ro : ab_E} (h : ab_len ro pc ll st c s g = some (P, nx)) : ∃ (k : Nat) (r : List Value) (n : Nat), st = .ref k :: r ∧ nx = .inl (pc, ll, .int (Int32.ofNat n) :: r, c, s, g) ∧
    ((∃ t, t < 4 ∧ g.1[k]? = some (.inl (t, n))) ∨ (∃ t f, ro k = some (t, n, f))) := by
  unfold ab_len at h
  split at h
  · rename_i k r
    split at h
    · rename_i t n hk
      cases hq : Nat.blt t 4 with
      | true =>
        rw [hq] at h
        cases h
        exact ⟨k, r, n, rfl, rfl, Or.inl ⟨t, Nat.le_of_ble_eq_true hq, hk⟩⟩
      | false =>
        rw [hq] at h
        cases h
    · cases h
    · split at h
      · rename_i t n f hk
        cases h
        exact ⟨k, r, n, rfl, rfl, Or.inr ⟨t, f, hk⟩⟩
      · cases h
  · cases h
theorem ab_cond {B : Bool} {x y : Option (Prop × ab_N)} (h : cond B x none = some (P, nx)) : B = true ∧ x = some (P, nx) := by
  cases B with
  | true => exact ⟨rfl, h⟩
  | false => cases h
theorem ab_isO_ok {sh : List ab_K} {k c : Nat} (h : ab_isO sh k c = true) : sh[k]? = some (.inr c) := by
  unfold ab_isO at h
  split at h
  · rename_i d hd
    rw [hd, Nat.eq_of_beq_eq_true h]
  · cases h
theorem ab_r_gf {a b : Nat} {v : Value} (h : ab_gf a b v pc ll st c s g = some (P, nx)) : ∃ (k : Nat) (r : List Value), st = .ref k :: r ∧
    ((∃ x, v = .int x ∧ g.1[k]? = some (.inr a) ∧ nx = .inl (pc, ll, .int (g.2.2.1 k b) :: r, c, s, g)) ∨
     (∃ x, v = .long x ∧ g.1[k]? = some (.inr a) ∧ nx = .inl (pc, ll, .long (g.2.2.2 k b) :: r, c, s, g)) ∨
     (v = .null ∧ g.1[k]? = some (.inr a) ∧ nx = .inl (pc, ll, ab_rf g.2.1 k b :: r, c, s, g)) ∨
     (∃ x, v = .float x ∧ ab_B ≤ k ∧ k < ab_B + 15 ∧ nx = .inl (pc, ll, .ref (k + 100) :: r, c, s, g)) ∨
     (∃ x, v = .double x ∧ ab_B ≤ k ∧ k < ab_B + 15 ∧ nx = .inl (pc, ll, .int 0 :: r, c, s, g))) := by
  unfold ab_gf at h
  split at h
  · rename_i k r
    refine ⟨k, r, rfl, ?_⟩
    split at h
    · obtain ⟨h1, h2⟩ := ab_cond (y := none) h
      cases h2
      exact Or.inl ⟨_, rfl, ab_isO_ok h1, rfl⟩
    · obtain ⟨h1, h2⟩ := ab_cond (y := none) h
      cases h2
      exact Or.inr (Or.inl ⟨_, rfl, ab_isO_ok h1, rfl⟩)
    · obtain ⟨h1, h2⟩ := ab_cond (y := none) h
      cases h2
      exact Or.inr (Or.inr (Or.inl ⟨rfl, ab_isO_ok h1, rfl⟩))
    · obtain ⟨h1, h2⟩ := ab_cond (y := none) h
      cases h2
      rw [Bool.and_eq_true] at h1
      exact Or.inr (Or.inr (Or.inr (Or.inl ⟨_, rfl, Nat.le_of_ble_eq_true h1.1, Nat.le_of_ble_eq_true h1.2, rfl⟩)))
    · obtain ⟨h1, h2⟩ := ab_cond (y := none) h
      cases h2
      rw [Bool.and_eq_true] at h1
      exact Or.inr (Or.inr (Or.inr (Or.inr ⟨_, rfl, Nat.le_of_ble_eq_true h1.1, Nat.le_of_ble_eq_true h1.2, rfl⟩)))
    · cases h
  · cases h
theorem ab_r_pf {a b : Nat} {v : Value} {cs : List (Int32 × Nat)} (h : ab_pf a b v cs pc ll st c s g = some (P, nx)) : ∃ (k : Nat) (r : List Value), g.1[k]? = some (.inr a) ∧
    ((∃ x y, v = .int x ∧ st = .int y :: .ref k :: r ∧ (cs.isEmpty = true ∨ P = (y = 0 ∨ y = 1)) ∧ nx = .inl (pc, ll, r, c, s, g.1, g.2.1, ab_ui g.2.2.1 k b y, g.2.2.2)) ∨
     (∃ x y, v = .long x ∧ st = .long y :: .ref k :: r ∧ nx = .inl (pc, ll, r, c, s, g.1, g.2.1, g.2.2.1, ab_ul g.2.2.2 k b y)) ∨
     (∃ y, v = .null ∧ st = .ref y :: .ref k :: r ∧ k < g.2.1.length ∧ b < (g.2.1.getD k []).length ∧ nx = .inl (pc, ll, r, c, s, g.1, g.2.1.set k ((g.2.1.getD k []).set b (some y)), g.2.2.1, g.2.2.2))) := by
  unfold ab_pf at h
  split at h
  · rename_i x k r
    refine ⟨k, r, ?_⟩
    split at h
    · split at h
      · obtain ⟨h1, h2⟩ := ab_cond (y := none) h
        split at h2
        · cases h2
          exact ⟨ab_isO_ok h1, Or.inl ⟨_, _, rfl, rfl, Or.inl rfl, rfl⟩⟩
        · cases h2
          exact ⟨ab_isO_ok h1, Or.inl ⟨_, _, rfl, rfl, Or.inr rfl, rfl⟩⟩
      · cases h
    · split at h
      · obtain ⟨h1, h2⟩ := ab_cond (y := none) h
        cases h2
        exact ⟨ab_isO_ok h1, Or.inr (Or.inl ⟨_, _, rfl, rfl, rfl⟩)⟩
      · cases h
    · split at h
      · obtain ⟨h1, h2⟩ := ab_cond (y := none) h
        cases h2
        simp only [Bool.and_eq_true] at h1
        exact ⟨ab_isO_ok h1.1.1, Or.inr (Or.inr ⟨_, rfl, rfl, Nat.le_of_ble_eq_true h1.1.2, Nat.le_of_ble_eq_true h1.2, rfl⟩)⟩
      · cases h
    · cases h
  · cases h
end ABI
