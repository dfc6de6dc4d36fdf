/-! The bits of ints and longs. -/
def b6 (x : Int64) (i : Nat) : Bool := x.toBitVec.getLsbD i
def b3 (x : Int32) (i : Nat) : Bool := x.toBitVec.getLsbD i
theorem b6_ext {x y : Int64} (h : ∀ i, i < 64 → b6 x i = b6 y i) : x = y := by
  apply Int64.toBitVec_inj.1
  apply BitVec.eq_of_getLsbD_eq
  intro i hi
  exact h i hi
theorem b3_ext {x y : Int32} (h : ∀ i, i < 32 → b3 x i = b3 y i) : x = y := by
  apply Int32.toBitVec_inj.1
  apply BitVec.eq_of_getLsbD_eq
  intro i hi
  exact h i hi
theorem b6_ge (x : Int64) {i : Nat} (h : 64 ≤ i) : b6 x i = false := BitVec.getLsbD_of_ge _ _ h
theorem b3_ge (x : Int32) {i : Nat} (h : 32 ≤ i) : b3 x i = false := BitVec.getLsbD_of_ge _ _ h
theorem b6_and (x y : Int64) (i : Nat) : b6 (x &&& y) i = (b6 x i && b6 y i) := by
  show (x &&& y).toBitVec.getLsbD i = _
  rw [Int64.toBitVec_and, BitVec.getLsbD_and]; rfl
theorem b6_or (x y : Int64) (i : Nat) : b6 (x ||| y) i = (b6 x i || b6 y i) := by
  show (x ||| y).toBitVec.getLsbD i = _
  rw [Int64.toBitVec_or, BitVec.getLsbD_or]; rfl
theorem b6_xor (x y : Int64) (i : Nat) : b6 (x ^^^ y) i = (b6 x i ^^ b6 y i) := by
  show (x ^^^ y).toBitVec.getLsbD i = _
  rw [Int64.toBitVec_xor, BitVec.getLsbD_xor]; rfl
theorem b3_and (x y : Int32) (i : Nat) : b3 (x &&& y) i = (b3 x i && b3 y i) := by
  show (x &&& y).toBitVec.getLsbD i = _
  rw [Int32.toBitVec_and, BitVec.getLsbD_and]; rfl
theorem b3_or (x y : Int32) (i : Nat) : b3 (x ||| y) i = (b3 x i || b3 y i) := by
  show (x ||| y).toBitVec.getLsbD i = _
  rw [Int32.toBitVec_or, BitVec.getLsbD_or]; rfl
theorem b3_xor (x y : Int32) (i : Nat) : b3 (x ^^^ y) i = (b3 x i ^^ b3 y i) := by
  show (x ^^^ y).toBitVec.getLsbD i = _
  rw [Int32.toBitVec_xor, BitVec.getLsbD_xor]; rfl
theorem b6_m1 (i : Nat) : b6 (-1) i = decide (i < 64) := by
  show (BitVec.allOnes 64).getLsbD i = _
  rw [BitVec.getLsbD_allOnes]
theorem b3_m1 (i : Nat) : b3 (-1) i = decide (i < 32) := by
  show (BitVec.allOnes 32).getLsbD i = _
  rw [BitVec.getLsbD_allOnes]
theorem b6_0 (i : Nat) : b6 0 i = false := by
  show (0#64).getLsbD i = _
  simp
theorem b3_0 (i : Nat) : b3 0 i = false := by
  show (0#32).getLsbD i = _
  simp
theorem b6_not (x : Int64) {i : Nat} (h : i < 64) : b6 (x ^^^ (-1)) i = !b6 x i := by
  rw [b6_xor, b6_m1]; simp [h]
theorem b3_not (x : Int32) {i : Nat} (h : i < 32) : b3 (x ^^^ (-1)) i = !b3 x i := by
  rw [b3_xor, b3_m1]; simp [h]
theorem b6_zero {x : Int64} : x = 0 ↔ ∀ i, i < 64 → b6 x i = false := by
  constructor
  · intro h i _; rw [h]; exact b6_0 i
  · intro h; exact b6_ext (fun i hi => by rw [h i hi, b6_0])
theorem b3_zero {x : Int32} : x = 0 ↔ ∀ i, i < 32 → b3 x i = false := by
  constructor
  · intro h i _; rw [h]; exact b3_0 i
  · intro h; exact b3_ext (fun i hi => by rw [h i hi, b3_0])
theorem sh_k6 : ∀ k, k < 64 → ((nI k).toInt64 &&& 63).toBitVec.smod 64 = BitVec.ofNat 64 k := by decide +kernel
theorem sh_k3 : ∀ k, k < 32 → (nI k &&& 31).toBitVec.smod 32 = BitVec.ofNat 32 k := by decide +kernel
theorem shl6 (x : Int64) {k : Nat} (h : k < 64) : (x <<< ((nI k).toInt64 &&& 63)).toBitVec = x.toBitVec <<< k := by
  show x.toBitVec <<< (((nI k).toInt64 &&& 63).toBitVec.smod 64) = _
  rw [sh_k6 k h]
  show x.toBitVec <<< (BitVec.ofNat 64 k).toNat = _
  rw [BitVec.toNat_ofNat, Nat.mod_eq_of_lt (by omega)]
theorem shr6 (x : Int64) {k : Nat} (h : k < 64) : (x >>> ((nI k).toInt64 &&& 63)).toBitVec = x.toBitVec.sshiftRight k := by
  show x.toBitVec.sshiftRight' (((nI k).toInt64 &&& 63).toBitVec.smod 64) = _
  rw [sh_k6 k h]
  show x.toBitVec.sshiftRight (BitVec.ofNat 64 k).toNat = _
  rw [BitVec.toNat_ofNat, Nat.mod_eq_of_lt (by omega)]
theorem shl3 (x : Int32) {k : Nat} (h : k < 32) : (x <<< (nI k &&& 31)).toBitVec = x.toBitVec <<< k := by
  show x.toBitVec <<< ((nI k &&& 31).toBitVec.smod 32) = _
  rw [sh_k3 k h]
  show x.toBitVec <<< (BitVec.ofNat 32 k).toNat = _
  rw [BitVec.toNat_ofNat, Nat.mod_eq_of_lt (by omega)]
theorem shr3 (x : Int32) {k : Nat} (h : k < 32) : (x >>> (nI k &&& 31)).toBitVec = x.toBitVec.sshiftRight k := by
  show x.toBitVec.sshiftRight' ((nI k &&& 31).toBitVec.smod 32) = _
  rw [sh_k3 k h]
  show x.toBitVec.sshiftRight (BitVec.ofNat 32 k).toNat = _
  rw [BitVec.toNat_ofNat, Nat.mod_eq_of_lt (by omega)]
theorem b6_shr (x : Int64) {k i : Nat} (h : k + i < 64) : b6 (x >>> ((nI k).toInt64 &&& 63)) i = b6 x (k + i) := by
  unfold b6
  rw [shr6 x (by omega), BitVec.getLsbD_sshiftRight]
  simp [h, show ¬ 64 ≤ i by omega]
theorem b3_shr (x : Int32) {k i : Nat} (h : k + i < 32) : b3 (x >>> (nI k &&& 31)) i = b3 x (k + i) := by
  unfold b3
  rw [shr3 x (by omega), BitVec.getLsbD_sshiftRight]
  simp [h, show ¬ 32 ≤ i by omega]
theorem b6_shl (x : Int64) {k i : Nat} (h : k < 64) : b6 (x <<< ((nI k).toInt64 &&& 63)) i = (decide (i < 64) && decide (k ≤ i) && b6 x (i - k)) := by
  unfold b6
  rw [shl6 x h, BitVec.getLsbD_shiftLeft]
  by_cases hi : i < k
  · simp [hi, Nat.not_le.2 hi]
  · simp [hi, Nat.not_lt.1 hi]
theorem b3_shl (x : Int32) {k i : Nat} (h : k < 32) : b3 (x <<< (nI k &&& 31)) i = (decide (i < 32) && decide (k ≤ i) && b3 x (i - k)) := by
  unfold b3
  rw [shl3 x h, BitVec.getLsbD_shiftLeft]
  by_cases hi : i < k
  · simp [hi, Nat.not_le.2 hi]
  · simp [hi, Nat.not_lt.1 hi]
theorem b6_1 (i : Nat) : b6 1 i = decide (i = 0) := by
  show (1#64).getLsbD i = _
  rw [BitVec.getLsbD_one]
  simp
theorem b3_1 (i : Nat) : b3 1 i = decide (i = 0) := by
  show (1#32).getLsbD i = _
  rw [BitVec.getLsbD_one]
  simp
theorem b6_bit {k : Nat} (h : k < 64) (i : Nat) : b6 ((1 : Int64) <<< ((nI k).toInt64 &&& 63)) i = decide (i = k) := by
  rw [b6_shl _ h, b6_1]
  by_cases e : i = k
  · subst e; simp [h]
  · simp [e]; omega
theorem b3_bit {k : Nat} (h : k < 32) (i : Nat) : b3 ((1 : Int32) <<< (nI k &&& 31)) i = decide (i = k) := by
  rw [b3_shl _ h, b3_1]
  by_cases e : i = k
  · subst e; simp [h]
  · simp [e]; omega
theorem b6_at (x : Int64) {k : Nat} (h : k < 64) : (x >>> ((nI k).toInt64 &&& 63)) &&& 1 = if b6 x k = true then 1 else 0 := by
  apply b6_ext
  intro i hi
  rw [b6_and, b6_1]
  by_cases e : i = 0
  · subst e
    rw [b6_shr x (by omega), Nat.add_zero]
    cases b6 x k
    · simp [b6_0]
    · simp [b6_1]
  · cases b6 x k
    · simp [e, b6_0]
    · simp [e, b6_1]
theorem b3_at (x : Int32) {k : Nat} (h : k < 32) : (x >>> (nI k &&& 31)) &&& 1 = if b3 x k = true then 1 else 0 := by
  apply b3_ext
  intro i hi
  rw [b3_and, b3_1]
  by_cases e : i = 0
  · subst e
    rw [b3_shr x (by omega), Nat.add_zero]
    cases b3 x k
    · simp [b3_0]
    · simp [b3_1]
  · cases b3 x k
    · simp [e, b3_0]
    · simp [e, b3_1]
/-- nothing is left behind place k -/
theorem b6_done {x : Int64} {k : Nat} (hk : k < 64) (h : x >>> ((nI k).toInt64 &&& 63) = 0) {i : Nat} (hi : k ≤ i) : b6 x i = false := by
  by_cases h6 : i < 64
  · have := b6_shr x (k := k) (i := i - k) (by omega)
    rw [h, b6_0, show k + (i - k) = i by omega] at this
    exact this.symm
  · exact b6_ge x (by omega)
theorem b3_done {x : Int32} {k : Nat} (hk : k < 32) (h : x >>> (nI k &&& 31) = 0) {i : Nat} (hi : k ≤ i) : b3 x i = false := by
  by_cases h6 : i < 32
  · have := b3_shr x (k := k) (i := i - k) (by omega)
    rw [h, b3_0, show k + (i - k) = i by omega] at this
    exact this.symm
  · exact b3_ge x (by omega)
theorem b6_low : ∀ n, n < 64 → ∀ i, i < 64 → b6 ((1 : Int64) <<< ((nI n).toInt64 &&& 63) - 1) i = decide (i < n) := by decide +kernel
theorem b3_low : ∀ n, n < 32 → ∀ i, i < 32 → b3 ((1 : Int32) <<< (nI n &&& 31) - 1) i = decide (i < n) := by decide +kernel
theorem lc_eq (x y : Int64) : (lg_cmp x y = 0) = (x = y) := by
  apply propext
  unfold lg_cmp
  constructor
  · intro h
    by_cases h1 : x > y
    · rw [if_pos h1] at h; exact absurd h (by decide)
    · rw [if_neg h1] at h
      by_cases h2 : x = y
      · exact h2
      · rw [if_neg h2] at h; exact absurd h (by decide)
  · intro h
    subst h
    rw [if_neg (Int64.lt_irrefl (a := x)), if_pos rfl]
theorem pcn_lt (i : Nat) : ∀ n, pcn (fun j => decide (j < i)) n = if n ≤ i then n else i
  | 0 => by simp [pcn]
  | n + 1 => by
    show pcn _ n + (decide (n < i)).toNat = _
    rw [pcn_lt i n]
    by_cases h : n < i
    · simp [h, Nat.le_of_lt h]
      intro h2; omega
    · simp [h, show ¬ n + 1 ≤ i by omega]
      intro h2
      omega
theorem odd_part : ∀ n : Nat, 0 < n → ∃ i m, n = 2 ^ (i + 1) * m + 2 ^ i := by
  intro n
  induction n using Nat.strongRecOn with
  | _ n ih =>
    intro h
    by_cases e : n % 2 = 1
    · exact ⟨0, n / 2, by simp; omega⟩
    · obtain ⟨i, m, hm⟩ := ih (n / 2) (by omega) (by omega)
      refine ⟨i + 1, m, ?_⟩
      have : n = 2 * (n / 2) := by omega
      rw [this, hm]
      simp only [Nat.pow_succ]
      rw [Nat.mul_add]
      congr 1
      · rw [← Nat.mul_assoc]; congr 1; omega
      · omega
theorem tb_mid (i m r : Nat) (hr : r < 2 ^ (i + 1)) (j : Nat) : (2 ^ (i + 1) * m + r).testBit j = if j < i + 1 then r.testBit j else m.testBit (j - (i + 1)) := Nat.testBit_two_pow_mul_add m hr j
/-- the lowest bit of a long -/
theorem b6_lowest {r : Int64} (h : ¬ r = 0) : ∃ i, i < 64 ∧ b6 r i = true ∧ (∀ j, j < i → b6 r j = false) ∧ (r &&& (-r)) = (1 : Int64) <<< ((nI i).toInt64 &&& 63) ∧ (∀ j, j < 64 → b6 (r &&& (r - 1)) j = (b6 r j && !decide (j = i))) := by
  have hn : 0 < r.toBitVec.toNat := by
    rcases Nat.eq_zero_or_pos r.toBitVec.toNat with h0 | h0
    · exfalso
      apply h
      apply Int64.toBitVec_inj.1
      apply BitVec.eq_of_toNat_eq
      rw [h0]; rfl
    · exact h0
  have hlt : r.toBitVec.toNat < 2 ^ 64 := r.toBitVec.isLt
  obtain ⟨i, m, hm⟩ := odd_part _ hn
  have hi : i < 64 := by
    by_cases h64 : i < 64
    · exact h64
    · exfalso
      have : 2 ^ 64 ≤ 2 ^ i := Nat.pow_le_pow_right (by decide) (by omega)
      omega
  have hp : (2 : Nat) ^ i < 2 ^ (i + 1) := Nat.pow_lt_pow_right (by decide) (by omega)
  have hpos : 0 < (2 : Nat) ^ i := Nat.pow_pos (by decide)
  have e64 : (2 : Nat) ^ 64 = 2 ^ (i + 1) * 2 ^ (63 - i) := by rw [← Nat.pow_add]; congr 1; omega
  have hm2 : m < 2 ^ (63 - i) := by
    by_cases hh : m < 2 ^ (63 - i)
    · exact hh
    · exfalso
      have : 2 ^ (i + 1) * 2 ^ (63 - i) ≤ 2 ^ (i + 1) * m := Nat.mul_le_mul_left _ (by omega)
      omega
  have t0 : ∀ j, b6 r j = if j < i + 1 then decide (j = i) else m.testBit (j - (i + 1)) := fun j => by
    show r.toBitVec.toNat.testBit j = _
    rw [hm, tb_mid i m _ hp, Nat.testBit_two_pow]
    rw [show decide (i = j) = decide (j = i) from by simp [eq_comm]]
  have t1 : ∀ j, b6 (r - 1) j = if j < i + 1 then decide (j < i) else m.testBit (j - (i + 1)) := fun j => by
    have e : (r - 1).toBitVec.toNat = 2 ^ (i + 1) * m + (2 ^ i - 1) := by
      rw [Int64.toBitVec_sub, BitVec.toNat_sub]
      show (2 ^ 64 - 1 + r.toBitVec.toNat) % 2 ^ 64 = _
      omega
    show (r - 1).toBitVec.toNat.testBit j = _
    rw [e, tb_mid i m _ (by omega), Nat.testBit_two_pow_sub_one]
  have t2 : ∀ j, b6 (-r) j = if j < i + 1 then decide (j = i) else (decide (j - (i + 1) < 63 - i) && !m.testBit (j - (i + 1))) := fun j => by
    have e : (-r).toBitVec.toNat = 2 ^ (i + 1) * (2 ^ (63 - i) - (m + 1)) + 2 ^ i := by
      rw [Int64.toBitVec_neg, BitVec.toNat_neg, Nat.mul_sub, Nat.mul_add, ← e64]
      have : 2 ^ (i + 1) * m + 2 ^ (i + 1) * 1 ≤ 2 ^ 64 := by
        rw [e64, ← Nat.mul_add]
        exact Nat.mul_le_mul_left _ hm2
      have e2 : (2 : Nat) ^ (i + 1) = 2 * 2 ^ i := by rw [Nat.pow_succ]; omega
      omega
    show (-r).toBitVec.toNat.testBit j = _
    rw [e, tb_mid i _ _ hp, Nat.testBit_two_pow, Nat.testBit_two_pow_sub_succ hm2]
    rw [show decide (i = j) = decide (j = i) from by simp [eq_comm]]
  refine ⟨i, hi, ?_, ?_, ?_, ?_⟩
  · rw [t0]; simp
  · intro j hj
    rw [t0, if_pos (by omega)]
    simp; omega
  · apply b6_ext
    intro j hj
    rw [b6_and, b6_bit hi, t0, t2]
    by_cases hj2 : j < i + 1
    · simp [hj2]
    · simp only [hj2, if_false]
      rw [show decide (j = i) = false from by simp; omega]
      cases m.testBit (j - (i + 1)) <;> simp
  · intro j hj
    rw [b6_and, t0, t1]
    by_cases hj2 : j < i + 1
    · simp only [hj2, if_true]
      by_cases e : j = i
      · simp [e]
      · simp [e]
    · simp only [hj2, if_false]
      rw [show decide (j = i) = false from by simp; omega]
      cases m.testBit (j - (i + 1)) <;> simp
/-- Long.bitCount, Integer.bitCount -/
def us6 (x : Int64) (k : Int32) : Int64 := (x.toUInt64 >>> (k.toInt64.toUInt64 &&& Int64.toUInt64 63)).toInt64
def us3 (x : Int32) (k : Int32) : Int32 := (x.toUInt32 >>> (k.toUInt32 &&& Int32.toUInt32 31)).toInt32
def jb1 (x : Int64) : Int64 := x - (us6 x 1 &&& 6148914691236517205)
def jb2 (x : Int64) : Int64 := (x &&& 3689348814741910323) + (us6 x 2 &&& 3689348814741910323)
def jb4 (x : Int64) : Int64 := (x + us6 x 4) &&& 1085102592571150095
def jb6 (x : Int64) : Int32 := (let a := jb4 (jb2 (jb1 x)); let b := a + us6 a 8; let c := b + us6 b 16; (c + us6 c 32)).toInt32 &&& 127
def ib1 (x : Int32) : Int32 := x - (us3 x 1 &&& 1431655765)
def ib2 (x : Int32) : Int32 := (x &&& 858993459) + (us3 x 2 &&& 858993459)
def ib4 (x : Int32) : Int32 := (x + us3 x 4) &&& 252645135
def ib6 (x : Int32) : Int32 := (let a := ib4 (ib2 (ib1 x)); let b := a + us3 a 8; (b + us3 b 16)) &&& 63
theorem us6_n (x : Int64) (k : Int32) (n : Nat) (hk : (k.toInt64.toUInt64 &&& Int64.toUInt64 63).toBitVec % 64 = BitVec.ofNat 64 n) (hn : n < 64) : (us6 x k).toBitVec.toNat = x.toBitVec.toNat / 2 ^ n := by
  show (x.toBitVec >>> ((k.toInt64.toUInt64 &&& Int64.toUInt64 63).toBitVec % 64)).toNat = _
  rw [hk]
  show (x.toBitVec >>> (BitVec.ofNat 64 n).toNat).toNat = _
  rw [BitVec.toNat_ushiftRight, Nat.shiftRight_eq_div_pow, BitVec.toNat_ofNat, Nat.mod_eq_of_lt (a := n) (by omega)]
theorem us3_n (x : Int32) (k : Int32) (n : Nat) (hk : (k.toUInt32 &&& Int32.toUInt32 31).toBitVec % 32 = BitVec.ofNat 32 n) (hn : n < 32) : (us3 x k).toBitVec.toNat = x.toBitVec.toNat / 2 ^ n := by
  show (x.toBitVec >>> ((k.toUInt32 &&& Int32.toUInt32 31).toBitVec % 32)).toNat = _
  rw [hk]
  show (x.toBitVec >>> (BitVec.ofNat 32 n).toNat).toNat = _
  rw [BitVec.toNat_ushiftRight, Nat.shiftRight_eq_div_pow, BitVec.toNat_ofNat, Nat.mod_eq_of_lt (a := n) (by omega)]
theorem bm_lt (k : Nat) (hk : k < 256) : ∀ n, bm k n < 256 ^ n
  | 0 => Nat.one_pos
  | n + 1 => by
    have := bm_lt k hk n
    show 256 * bm k n + k < 256 ^ n * 256
    omega
theorem n64_and (x y : Int64) : (x &&& y).toBitVec.toNat = x.toBitVec.toNat &&& y.toBitVec.toNat := by rw [Int64.toBitVec_and, BitVec.toNat_and]
theorem n64_add (x y : Int64) (h : x.toBitVec.toNat + y.toBitVec.toNat < 2 ^ 64) : (x + y).toBitVec.toNat = x.toBitVec.toNat + y.toBitVec.toNat := by rw [Int64.toBitVec_add, BitVec.toNat_add, Nat.mod_eq_of_lt h]
theorem n64_sub (x y : Int64) (h : y.toBitVec.toNat ≤ x.toBitVec.toNat) : (x - y).toBitVec.toNat = x.toBitVec.toNat - y.toBitVec.toNat := by rw [Int64.toBitVec_sub, BitVec.toNat_sub_of_le h]
theorem n32_and (x y : Int32) : (x &&& y).toBitVec.toNat = x.toBitVec.toNat &&& y.toBitVec.toNat := by rw [Int32.toBitVec_and, BitVec.toNat_and]
theorem n32_add (x y : Int32) (h : x.toBitVec.toNat + y.toBitVec.toNat < 2 ^ 32) : (x + y).toBitVec.toNat = x.toBitVec.toNat + y.toBitVec.toNat := by rw [Int32.toBitVec_add, BitVec.toNat_add, Nat.mod_eq_of_lt h]
theorem n32_sub (x y : Int32) (h : y.toBitVec.toNat ≤ x.toBitVec.toNat) : (x - y).toBitVec.toNat = x.toBitVec.toNat - y.toBitVec.toNat := by rw [Int32.toBitVec_sub, BitVec.toNat_sub_of_le h]
theorem jb1_n (x : Int64) : (jb1 x).toBitVec.toNat = q1 8 x.toBitVec.toNat := by
  have e1 : (us6 x 1).toBitVec.toNat = x.toBitVec.toNat / 2 := us6_n x 1 1 (by decide) (by decide)
  have e2 : (us6 x 1 &&& 6148914691236517205).toBitVec.toNat = (x.toBitVec.toNat / 2) &&& bm 0x55 8 := by
    rw [n64_and, e1]
    rfl
  unfold jb1 q1
  rw [n64_sub _ _ (by rw [e2]; exact Nat.le_trans Nat.and_le_left (Nat.div_le_self _ 2)), e2]
theorem jb2_n (x : Int64) : (jb2 x).toBitVec.toNat = q2 8 x.toBitVec.toNat := by
  have e1 : (us6 x 2).toBitVec.toNat = x.toBitVec.toNat / 4 := us6_n x 2 2 (by decide) (by decide)
  have e2 : (us6 x 2 &&& 3689348814741910323).toBitVec.toNat = (x.toBitVec.toNat / 4) &&& bm 0x33 8 := by
    rw [n64_and, e1]
    rfl
  have e3 : (x &&& 3689348814741910323).toBitVec.toNat = x.toBitVec.toNat &&& bm 0x33 8 := by
    rw [n64_and]
    rfl
  have hb : bm 0x33 8 = 3689348814741910323 := by decide +kernel
  unfold jb2 q2
  rw [n64_add _ _ (by
    rw [e2, e3, hb]
    have h1 : (x.toBitVec.toNat &&& 3689348814741910323) ≤ 3689348814741910323 := Nat.and_le_right
    have h2 : (x.toBitVec.toNat / 4 &&& 3689348814741910323) ≤ 3689348814741910323 := Nat.and_le_right
    omega), e2, e3]
theorem jb4_n (x : Int64) (h : x.toBitVec.toNat < 2 ^ 63) : (jb4 x).toBitVec.toNat = q3 8 x.toBitVec.toNat := by
  have e1 : (us6 x 4).toBitVec.toNat = x.toBitVec.toNat / 16 := us6_n x 4 4 (by decide) (by decide)
  unfold jb4 q3
  rw [n64_and, n64_add _ _ (by rw [e1]; omega), e1]
  rfl
theorem ib1_n (x : Int32) : (ib1 x).toBitVec.toNat = q1 4 x.toBitVec.toNat := by
  have e1 : (us3 x 1).toBitVec.toNat = x.toBitVec.toNat / 2 := us3_n x 1 1 (by decide) (by decide)
  have e2 : (us3 x 1 &&& 1431655765).toBitVec.toNat = (x.toBitVec.toNat / 2) &&& bm 0x55 4 := by
    rw [n32_and, e1]
    rfl
  unfold ib1 q1
  rw [n32_sub _ _ (by rw [e2]; exact Nat.le_trans Nat.and_le_left (Nat.div_le_self _ 2)), e2]
theorem ib2_n (x : Int32) : (ib2 x).toBitVec.toNat = q2 4 x.toBitVec.toNat := by
  have e1 : (us3 x 2).toBitVec.toNat = x.toBitVec.toNat / 4 := us3_n x 2 2 (by decide) (by decide)
  have e2 : (us3 x 2 &&& 858993459).toBitVec.toNat = (x.toBitVec.toNat / 4) &&& bm 0x33 4 := by
    rw [n32_and, e1]
    rfl
  have e3 : (x &&& 858993459).toBitVec.toNat = x.toBitVec.toNat &&& bm 0x33 4 := by
    rw [n32_and]
    rfl
  have hb : bm 0x33 4 = 858993459 := by decide +kernel
  unfold ib2 q2
  rw [n32_add _ _ (by
    rw [e2, e3, hb]
    have h1 : (x.toBitVec.toNat &&& 858993459) ≤ 858993459 := Nat.and_le_right
    have h2 : (x.toBitVec.toNat / 4 &&& 858993459) ≤ 858993459 := Nat.and_le_right
    omega), e2, e3]
theorem ib4_n (x : Int32) (h : x.toBitVec.toNat < 2 ^ 31) : (ib4 x).toBitVec.toNat = q3 4 x.toBitVec.toNat := by
  have e1 : (us3 x 4).toBitVec.toNat = x.toBitVec.toNat / 16 := us3_n x 4 4 (by decide) (by decide)
  unfold ib4 q3
  rw [n32_and, n32_add _ _ (by rw [e1]; omega), e1]
  rfl
theorem q2_lt (n : Nat) (y M : Nat) (hM : bm 0x33 n = M) : q2 n y ≤ 2 * M := by
  unfold q2
  rw [hM]
  have h1 : (y &&& M) ≤ M := Nat.and_le_right
  have h2 : (y / 4 &&& M) ≤ M := Nat.and_le_right
  omega
theorem dsum_lt : ∀ n x, dsum x n < 256 ^ n
  | 0, _ => Nat.one_pos
  | n + 1, x => by
    have h1 := dsum_lt n (x / 256)
    have h2 := p8_le x
    show 256 * dsum (x / 256) n + p8 x < 256 ^ n * 256
    omega
theorem jb6_eq (x : Int64) : jb6 x = nI (pcn (b6 x) 64) := by
  have hlt : x.toBitVec.toNat < 256 ^ 8 := x.toBitVec.isLt
  have e1 := jb1_n x
  have e2 := jb2_n (jb1 x)
  rw [e1] at e2
  have e4 := jb4_n (jb2 (jb1 x)) (by
    rw [e2]
    have := q2_lt 8 (q1 8 x.toBitVec.toNat) 3689348814741910323 (by decide +kernel)
    omega)
  rw [e2, (q_all 8 _ hlt).2] at e4
  unfold jb6
  dsimp only
  generalize jb4 (jb2 (jb1 x)) = a at e4
  obtain ⟨f1, f2, f3⟩ := fold8 x.toBitVec.toNat _ _ rfl rfl
  have hd : dsum x.toBitVec.toNat 8 < 2 ^ 62 := Nat.lt_of_le_of_lt (Nat.le_add_right _ _) f2
  have g1 : (a + us6 a 8).toBitVec.toNat = dsum x.toBitVec.toNat 8 + dsum x.toBitVec.toNat 8 / 256 := by
    have e : (us6 a 8).toBitVec.toNat = a.toBitVec.toNat / 256 := us6_n a 8 8 (by decide) (by decide)
    rw [n64_add _ _ (by rw [e, e4]; omega), e, e4]
  generalize a + us6 a 8 = b at g1
  rw [← g1] at f1 f2 f3
  have g2 : (b + us6 b 16).toBitVec.toNat = b.toBitVec.toNat + b.toBitVec.toNat / 65536 := by
    have e : (us6 b 16).toBitVec.toNat = b.toBitVec.toNat / 65536 := us6_n b 16 16 (by decide) (by decide)
    rw [n64_add _ _ (by rw [e]; omega), e]
  generalize b + us6 b 16 = c at g2
  rw [← g2] at f1 f3
  have g3 : (c + us6 c 32).toBitVec.toNat = c.toBitVec.toNat + c.toBitVec.toNat / 4294967296 := by
    have e : (us6 c 32).toBitVec.toNat = c.toBitVec.toNat / 4294967296 := us6_n c 32 32 (by decide) (by decide)
    rw [n64_add _ _ (by rw [e]; omega), e]
  rw [← g3] at f1
  generalize c + us6 c 32 = d at f1
  have hp := pcn_le (b6 x) 64
  apply Int32.toBitVec_inj.1
  apply BitVec.eq_of_toNat_eq
  rw [n32_and, Int64.toBitVec_toInt32, BitVec.signExtend_eq_setWidth_of_le _ (by decide), BitVec.toNat_setWidth]
  show (d.toBitVec.toNat % 2 ^ 32) &&& (2 ^ 7 - 1) = pcn (b6 x) 64 % 2 ^ 32
  rw [Nat.and_two_pow_sub_one_eq_mod]
  have f1' : d.toBitVec.toNat % 128 = pcn (b6 x) 64 := f1
  omega
theorem ib6_eq (x : Int32) : ib6 x = nI (pcn (b3 x) 32) := by
  have hlt : x.toBitVec.toNat < 256 ^ 4 := x.toBitVec.isLt
  have e1 := ib1_n x
  have e2 := ib2_n (ib1 x)
  rw [e1] at e2
  have e4 := ib4_n (ib2 (ib1 x)) (by
    rw [e2]
    have := q2_lt 4 (q1 4 x.toBitVec.toNat) 858993459 (by decide +kernel)
    omega)
  rw [e2, (q_all 4 _ hlt).2] at e4
  unfold ib6
  dsimp only
  generalize ib4 (ib2 (ib1 x)) = a at e4
  obtain ⟨f1, f2⟩ := fold4 x.toBitVec.toNat _ rfl
  have hd : dsum x.toBitVec.toNat 4 < 2 ^ 30 := Nat.lt_of_le_of_lt (Nat.le_add_right _ _) f2
  have g1 : (a + us3 a 8).toBitVec.toNat = dsum x.toBitVec.toNat 4 + dsum x.toBitVec.toNat 4 / 256 := by
    have e : (us3 a 8).toBitVec.toNat = a.toBitVec.toNat / 256 := us3_n a 8 8 (by decide) (by decide)
    rw [n32_add _ _ (by rw [e, e4]; omega), e, e4]
  generalize a + us3 a 8 = b at g1
  rw [← g1] at f1 f2
  have g2 : (b + us3 b 16).toBitVec.toNat = b.toBitVec.toNat + b.toBitVec.toNat / 65536 := by
    have e : (us3 b 16).toBitVec.toNat = b.toBitVec.toNat / 65536 := us3_n b 16 16 (by decide) (by decide)
    rw [n32_add _ _ (by rw [e]; omega), e]
  rw [← g2] at f1
  generalize b + us3 b 16 = c at f1
  have hp := pcn_le (b3 x) 32
  apply Int32.toBitVec_inj.1
  apply BitVec.eq_of_toNat_eq
  rw [n32_and]
  show c.toBitVec.toNat &&& (2 ^ 6 - 1) = pcn (b3 x) 32 % 2 ^ 32
  rw [Nat.and_two_pow_sub_one_eq_mod]
  have f1' : c.toBitVec.toNat % 64 = pcn (b3 x) 32 := f1
  omega
