/-! Counting bits: the JDK's way is the sum of the bits. -/
def pcn (f : Nat → Bool) : Nat → Nat
  | 0 => 0
  | n + 1 => pcn f n + (f n).toNat
theorem pcn_add (f : Nat → Bool) (m : Nat) : ∀ n, pcn f (m + n) = pcn f m + pcn (fun i => f (m + i)) n
  | 0 => rfl
  | n + 1 => by
    show pcn f (m + n) + (f (m + n)).toNat = _
    rw [pcn_add f m n]
    show _ = pcn f m + (pcn (fun i => f (m + i)) n + (f (m + n)).toNat)
    omega
theorem pcn_congr {f g : Nat → Bool} : ∀ {n}, (∀ i, i < n → f i = g i) → pcn f n = pcn g n
  | 0, _ => rfl
  | n + 1, h => by
    show pcn f n + (f n).toNat = pcn g n + (g n).toNat
    rw [pcn_congr (fun i hi => h i (Nat.lt_succ_of_lt hi)), h n (Nat.lt_succ_self n)]
theorem pcn_le (f : Nat → Bool) : ∀ n, pcn f n ≤ n
  | 0 => Nat.le_refl 0
  | n + 1 => by
    show pcn f n + (f n).toNat ≤ n + 1
    have := pcn_le f n
    have := Bool.toNat_le (f n)
    omega
theorem pcn_false : ∀ n, pcn (fun _ => false) n = 0
  | 0 => rfl
  | n + 1 => by
    show pcn (fun _ => false) n + 0 = 0
    rw [pcn_false n]
/-- masks of n bytes -/
def bm (k : Nat) : Nat → Nat
  | 0 => 0
  | n + 1 => 256 * bm k n + k
theorem bm_and (a b k m : Nat) (hb : b < 256) (hk : k < 256) : (256 * a + b) &&& (256 * m + k) = 256 * (a &&& m) + (b &&& k) := by
  apply Nat.eq_of_testBit_eq
  intro i
  have e : (256 : Nat) = 2 ^ 8 := rfl
  have h3 : (b &&& k) < 2 ^ 8 := Nat.and_lt_two_pow b hk
  rw [Nat.testBit_and, e, Nat.testBit_two_pow_mul_add a hb, Nat.testBit_two_pow_mul_add m hk, Nat.testBit_two_pow_mul_add (a &&& m) h3]
  by_cases h : i < 8
  · rw [if_pos h, if_pos h, if_pos h, Nat.testBit_and]
  · rw [if_neg h, if_neg h, if_neg h, Nat.testBit_and]
def q1 (n x : Nat) : Nat := x - ((x / 2) &&& bm 0x55 n)
def q2 (n y : Nat) : Nat := (y &&& bm 0x33 n) + ((y / 4) &&& bm 0x33 n)
def q3 (n z : Nat) : Nat := (z + z / 16) &&& bm 0x0f n
theorem q_t1 : ∀ t, t < 2 → ∀ b, b < 256 → (128 * t + b / 2) &&& 0x55 = (b / 2) &&& 0x55 := by decide +kernel
theorem q_t2 : ∀ t, t < 4 → ∀ b, b < 256 → (64 * t + b / 4) &&& 0x33 = (b / 4) &&& 0x33 := by decide +kernel
def d1 (b : Nat) : Nat := b - ((b / 2) &&& 0x55)
def d2 (b : Nat) : Nat := (b &&& 0x33) + ((b / 4) &&& 0x33)
def d3 (b : Nat) : Nat := (b + b / 16) &&& 0x0f
theorem q_d : ∀ b, b < 256 → ((b / 2) &&& 0x55) ≤ b ∧ d1 b < 256 ∧ d2 (d1 b) % 16 ≤ 4 ∧ d2 (d1 b) / 16 ≤ 4 ∧ d3 (d2 (d1 b)) = pcn (fun i => b.testBit i) 8 := by decide +kernel
theorem q_t3 : ∀ t, t < 5 → ∀ u, u < 5 → ∀ v, v < 5 → ((16 * u + v) + (16 * t + u)) &&& 0x0f = ((16 * u + v) + u) &&& 0x0f := by decide +kernel
theorem q1_s (n a b : Nat) (hb : b < 256) : q1 (n + 1) (256 * a + b) = 256 * q1 n a + d1 b := by
  unfold q1 d1
  have e1 : (256 * a + b) / 2 = 256 * (a / 2) + (128 * (a % 2) + b / 2) := by omega
  have h2 : 128 * (a % 2) + b / 2 < 256 := by omega
  rw [e1]
  show _ - (_ &&& (256 * bm 0x55 n + 0x55)) = _
  rw [bm_and _ _ _ _ h2 (by decide), q_t1 _ (Nat.mod_lt _ (by decide)) b hb]
  have h3 : (a / 2 &&& bm 85 n) ≤ a := Nat.le_trans Nat.and_le_left (Nat.div_le_self a 2)
  have h4 := (q_d b hb).1
  omega
theorem q2_s (n a b : Nat) (hb : b < 256) : q2 (n + 1) (256 * a + b) = 256 * q2 n a + d2 b := by
  unfold q2 d2
  have e1 : (256 * a + b) / 4 = 256 * (a / 4) + (64 * (a % 4) + b / 4) := by omega
  have h2 : 64 * (a % 4) + b / 4 < 256 := by omega
  rw [e1]
  show (_ &&& (256 * bm 0x33 n + 0x33)) + (_ &&& (256 * bm 0x33 n + 0x33)) = _
  rw [bm_and _ _ _ _ h2 (by decide), bm_and _ _ _ _ hb (by decide), q_t2 _ (Nat.mod_lt _ (by decide)) b hb]
  omega
theorem q3_s (n a b : Nat) (ha : a % 16 ≤ 4) (hb : b % 16 ≤ 4) (hb2 : b / 16 ≤ 4) : q3 (n + 1) (256 * a + b) = 256 * q3 n a + d3 b := by
  unfold q3 d3
  have e1 : 256 * a + b + (256 * a + b) / 16 = 256 * (a + a / 16) + (b + (16 * (a % 16) + b / 16)) := by omega
  rw [e1]
  show (_ &&& (256 * bm 0x0f n + 0x0f)) = _
  rw [bm_and _ _ _ _ (by omega) (by decide)]
  have h3 := q_t3 (a % 16) (by omega) (b / 16) (by omega) (b % 16) (by omega)
  have e2 : 16 * (b / 16) + b % 16 = b := by omega
  rw [e2] at h3
  rw [h3]
def p8 (x : Nat) : Nat := pcn (fun i => (x % 256).testBit i) 8
def dsum (x : Nat) : Nat → Nat
  | 0 => 0
  | n + 1 => 256 * dsum (x / 256) n + p8 x
theorem q_all : ∀ (n x : Nat), x < 256 ^ n → q2 n (q1 n x) % 16 ≤ 4 ∧ q3 n (q2 n (q1 n x)) = dsum x n := by
  intro n
  induction n with
  | zero =>
    intro x hx
    have : x = 0 := by
      have : (256 : Nat) ^ 0 = 1 := rfl
      omega
    subst this
    decide
  | succ n ih =>
    intro x hx
    have hx2 : x / 256 < 256 ^ n := by
      rw [Nat.pow_succ] at hx
      exact Nat.div_lt_of_lt_mul (by rw [Nat.mul_comm]; exact hx)
    obtain ⟨h1, h2⟩ := ih _ hx2
    have e : x = 256 * (x / 256) + x % 256 := by omega
    have hb : x % 256 < 256 := Nat.mod_lt _ (by decide)
    obtain ⟨g1, g2, g3, g4, g5⟩ := q_d _ hb
    rw [e, q1_s n _ _ hb, q2_s n _ _ g2, q3_s n _ _ h1 g3 g4, h2, g5]
    constructor
    · omega
    · show _ = 256 * dsum ((256 * (x / 256) + x % 256) / 256) n + p8 (256 * (x / 256) + x % 256)
      rw [← e]
      rfl
theorem pcn_byte (x : Nat) : pcn (fun i => (x % 256).testBit i) 8 = pcn (fun i => x.testBit i) 8 := by
  apply pcn_congr
  intro i hi
  show (x % 2 ^ 8).testBit i = _
  rw [Nat.testBit_mod_two_pow]
  simp [hi]
theorem pcn_split (x n : Nat) : pcn (fun i => x.testBit i) (8 * (n + 1)) = p8 x + pcn (fun i => (x / 256).testBit i) (8 * n) := by
  unfold p8
  rw [show 8 * (n + 1) = 8 + 8 * n by omega, pcn_add, pcn_byte]
  congr 1
  apply pcn_congr
  intro i _
  show x.testBit (8 + i) = (x / 2 ^ 8).testBit i
  rw [Nat.testBit_div_two_pow, Nat.add_comm]
theorem p8_le (x : Nat) : p8 x ≤ 8 := pcn_le _ 8
theorem dsum_s (x n : Nat) : dsum x (n + 1) = 256 * dsum (x / 256) n + p8 x := rfl
theorem dsum_0 (x : Nat) : dsum x 0 = 0 := rfl
theorem dv_of (w d q r : Nat) (hd : 0 < d) (h : w = d * q + r) (hr : r < d) : w / d = q := by
  subst h
  rw [Nat.mul_add_div hd, Nat.div_eq_of_lt hr, Nat.add_zero]
theorem md_of (w d q r : Nat) (h : w = d * q + r) (hr : r < d) : w % d = r := by
  subst h
  rw [Nat.mul_add_mod, Nat.mod_eq_of_lt hr]
theorem fold8_aux (a0 a1 a2 a3 a4 a5 a6 a7 : Nat) (h0 : a0 ≤ 8) (h1 : a1 ≤ 8) (h2 : a2 ≤ 8) (h3 : a3 ≤ 8) (h4 : a4 ≤ 8) (h5 : a5 ≤ 8) (h6 : a6 ≤ 8) (h7 : a7 ≤ 8) (t w1 w2 : Nat)
    (ht : t = a0 + 256 * a1 + 65536 * a2 + 16777216 * a3 + 4294967296 * a4 + 1099511627776 * a5 + 281474976710656 * a6 + 72057594037927936 * a7) (hw1 : w1 = t + t / 256) (hw2 : w2 = w1 + w1 / 65536) : (w2 + w2 / 4294967296) % 128 = a0 + a1 + a2 + a3 + a4 + a5 + a6 + a7 ∧ w1 < 2 ^ 62 ∧ w2 < 2 ^ 62 := by
  have e1 : t / 256 = a1 + 256 * a2 + 65536 * a3 + 16777216 * a4 + 4294967296 * a5 + 1099511627776 * a6 + 281474976710656 * a7 := dv_of _ _ _ a0 (by decide) (by clear hw1 hw2; omega) (by clear hw1 hw2 ht; omega)
  rw [e1] at hw1
  clear e1
  have f1 : w1 = 65536 * ((a2 + a3) + 256 * (a3 + a4) + 65536 * (a4 + a5) + 16777216 * (a5 + a6) + 4294967296 * (a6 + a7) + 1099511627776 * a7) + (a0 + a1 + 256 * (a1 + a2)) := by clear hw2; omega
  have e2 : w1 / 65536 = (a2 + a3) + 256 * (a3 + a4) + 65536 * (a4 + a5) + 16777216 * (a5 + a6) + 4294967296 * (a6 + a7) + 1099511627776 * a7 := dv_of _ _ _ _ (by decide) f1 (by clear hw1 hw2 ht f1; omega)
  rw [e2] at hw2
  clear e2 hw1 ht
  have f2 : w2 = 4294967296 * ((a4 + a5 + a6 + a7) + 256 * (a5 + a6 + a7) + 65536 * (a6 + a7) + 16777216 * a7) + (a0 + a1 + a2 + a3 + 256 * (a1 + a2 + a3 + a4) + 65536 * (a2 + a3 + a4 + a5) + 16777216 * (a3 + a4 + a5 + a6)) := by omega
  have e3 : w2 / 4294967296 = (a4 + a5 + a6 + a7) + 256 * (a5 + a6 + a7) + 65536 * (a6 + a7) + 16777216 * a7 := dv_of _ _ _ _ (by decide) f2 (by clear f1 f2 hw2; omega)
  rw [e3]
  clear e3
  have hA : w1 ≤ 65536 * (16 + 256 * 16 + 65536 * 16 + 16777216 * 16 + 4294967296 * 16 + 1099511627776 * 8) + (16 + 256 * 16) := by
    rw [f1]
    clear f1 f2 hw2
    omega
  have hB : w2 ≤ 4294967296 * (32 + 256 * 24 + 65536 * 16 + 16777216 * 8) + (32 + 256 * 32 + 65536 * 32 + 16777216 * 32) := by
    rw [f2]
    clear f1 f2 hw2 hA
    omega
  refine ⟨?_, ?_, ?_⟩
  · refine md_of _ _ (2 * (a1 + a2 + a3 + a4 + a5 + a6 + a7) + 512 * (a2 + a3 + a4 + a5 + a6 + a7) + 131072 * (a3 + a4 + a5 + a6 + a7) + 33554432 * (a4 + a5 + a6 + a7) + 8589934592 * (a5 + a6 + a7) + 2199023255552 * (a6 + a7) + 562949953421312 * a7) _ ?_ (by clear f1 f2 hw2 hA hB; omega)
    rw [f2]
    clear f1 f2 hw2 hA hB
    omega
  · exact Nat.lt_of_le_of_lt hA (by decide)
  · exact Nat.lt_of_le_of_lt hB (by decide)
theorem fold8 (x : Nat) (w1 w2 : Nat) (hw1 : w1 = dsum x 8 + dsum x 8 / 256) (hw2 : w2 = w1 + w1 / 65536) : (w2 + w2 / 4294967296) % 128 = pcn (fun i => x.testBit i) 64 ∧ w1 < 2 ^ 62 ∧ w2 < 2 ^ 62 := by
  have e : pcn (fun i => x.testBit i) 64 = p8 x + p8 (x / 256) + p8 (x / 256 / 256) + p8 (x / 256 / 256 / 256) + p8 (x / 256 / 256 / 256 / 256) + p8 (x / 256 / 256 / 256 / 256 / 256) + p8 (x / 256 / 256 / 256 / 256 / 256 / 256) + p8 (x / 256 / 256 / 256 / 256 / 256 / 256 / 256) := by
    rw [pcn_split x 7, pcn_split _ 6, pcn_split _ 5, pcn_split _ 4, pcn_split _ 3, pcn_split _ 2, pcn_split _ 1, pcn_split _ 0]
    have : ∀ y : Nat, pcn (fun i => y.testBit i) (8 * 0) = 0 := fun y => rfl
    rw [this]
    omega
  rw [e]
  refine fold8_aux _ _ _ _ _ _ _ _ (p8_le _) (p8_le _) (p8_le _) (p8_le _) (p8_le _) (p8_le _) (p8_le _) (p8_le _) (dsum x 8) w1 w2 ?_ hw1 hw2
  rw [dsum_s, dsum_s, dsum_s, dsum_s, dsum_s, dsum_s, dsum_s, dsum_s, dsum_0]
  omega
theorem fold4_aux (a0 a1 a2 a3 : Nat) (h0 : a0 ≤ 8) (h1 : a1 ≤ 8) (h2 : a2 ≤ 8) (h3 : a3 ≤ 8) (t w1 : Nat) (ht : t = a0 + 256 * a1 + 65536 * a2 + 16777216 * a3) (hw1 : w1 = t + t / 256) : (w1 + w1 / 65536) % 64 = a0 + a1 + a2 + a3 ∧ w1 < 2 ^ 30 := by
  have e1 : t / 256 = a1 + 256 * a2 + 65536 * a3 := by omega
  rw [e1] at hw1
  have e2 : w1 / 65536 = (a2 + a3) + 256 * a3 := by omega
  rw [e2]
  refine ⟨?_, ?_⟩ <;> omega
theorem fold4 (x : Nat) (w1 : Nat) (hw1 : w1 = dsum x 4 + dsum x 4 / 256) : (w1 + w1 / 65536) % 64 = pcn (fun i => x.testBit i) 32 ∧ w1 < 2 ^ 30 := by
  have e : pcn (fun i => x.testBit i) 32 = p8 x + p8 (x / 256) + p8 (x / 256 / 256) + p8 (x / 256 / 256 / 256) := by
    rw [pcn_split x 3, pcn_split _ 2, pcn_split _ 1, pcn_split _ 0]
    have : ∀ y : Nat, pcn (fun i => y.testBit i) (8 * 0) = 0 := fun y => rfl
    rw [this]
    omega
  rw [e]
  refine fold4_aux _ _ _ _ (p8_le _) (p8_le _) (p8_le _) (p8_le _) (dsum x 4) w1 ?_ hw1
  rw [dsum_s, dsum_s, dsum_s, dsum_s, dsum_0]
  omega
