/-! Numbers, loops, frames. -/
theorem up {F : Nat → Prop} {n : Nat} (st : ∀ i, i < n → F (i + 1) → F i) (la : F n) : ∀ i, i ≤ n → F i := by
  have : ∀ m i, i + m = n → F i := by
    intro m
    induction m with
    | zero =>
      intro i h
      have e : i = n := by omega
      rw [e]
      exact la
    | succ m ih =>
      intro i h
      exact st i (by omega) (ih (i + 1) (by omega))
  intro i hi
  exact this (n - i) i (by omega)
theorem up0 {F : Nat → Prop} {n : Nat} (st : ∀ i, i < n → F (i + 1) → F i) (la : F n) : F 0 := up st la 0 (Nat.zero_le n)
theorem xl_0 {a : Nat} (h : a < 2 ^ 31) : (nI a < 0) = False := eq_false (nI_pos h)
theorem xg_0 {a : Nat} (h : a < 2 ^ 31) : (0 < nI a) = (0 < a) := propext (nI_ltI (a := 0) (by decide) h)
theorem xe_0 {a : Nat} (h : a < 2 ^ 31) : (nI a = 0) = (a = 0) := propext (nI_eq (b := 0) h (by decide))
theorem xe_m1 {a : Nat} (h : a < 2 ^ 31) : (nI a = -1) = False := eq_false (fun e => by
  have h1 := nI_pos h
  rw [e] at h1
  exact h1 (by decide))
theorem xl_1 {a : Nat} (h : a < 2 ^ 31) : (nI a < 1) = (a < 1) := propext (nI_ltI (b := 1) h (by decide))
theorem xg_1 {a : Nat} (h : a < 2 ^ 31) : (1 < nI a) = (1 < a) := propext (nI_ltI (a := 1) (by decide) h)
theorem xe_1 {a : Nat} (h : a < 2 ^ 31) : (nI a = 1) = (a = 1) := propext (nI_eq (b := 1) h (by decide))
theorem xl_2 {a : Nat} (h : a < 2 ^ 31) : (nI a < 2) = (a < 2) := propext (nI_ltI (b := 2) h (by decide))
theorem xg_2 {a : Nat} (h : a < 2 ^ 31) : (2 < nI a) = (2 < a) := propext (nI_ltI (a := 2) (by decide) h)
theorem xe_2 {a : Nat} (h : a < 2 ^ 31) : (nI a = 2) = (a = 2) := propext (nI_eq (b := 2) h (by decide))
theorem xl_3 {a : Nat} (h : a < 2 ^ 31) : (nI a < 3) = (a < 3) := propext (nI_ltI (b := 3) h (by decide))
theorem xg_3 {a : Nat} (h : a < 2 ^ 31) : (3 < nI a) = (3 < a) := propext (nI_ltI (a := 3) (by decide) h)
theorem xe_3 {a : Nat} (h : a < 2 ^ 31) : (nI a = 3) = (a = 3) := propext (nI_eq (b := 3) h (by decide))
theorem xl_4 {a : Nat} (h : a < 2 ^ 31) : (nI a < 4) = (a < 4) := propext (nI_ltI (b := 4) h (by decide))
theorem xg_4 {a : Nat} (h : a < 2 ^ 31) : (4 < nI a) = (4 < a) := propext (nI_ltI (a := 4) (by decide) h)
theorem xe_4 {a : Nat} (h : a < 2 ^ 31) : (nI a = 4) = (a = 4) := propext (nI_eq (b := 4) h (by decide))
theorem xl_5 {a : Nat} (h : a < 2 ^ 31) : (nI a < 5) = (a < 5) := propext (nI_ltI (b := 5) h (by decide))
theorem xg_5 {a : Nat} (h : a < 2 ^ 31) : (5 < nI a) = (5 < a) := propext (nI_ltI (a := 5) (by decide) h)
theorem xe_5 {a : Nat} (h : a < 2 ^ 31) : (nI a = 5) = (a = 5) := propext (nI_eq (b := 5) h (by decide))
theorem xl_6 {a : Nat} (h : a < 2 ^ 31) : (nI a < 6) = (a < 6) := propext (nI_ltI (b := 6) h (by decide))
theorem xg_6 {a : Nat} (h : a < 2 ^ 31) : (6 < nI a) = (6 < a) := propext (nI_ltI (a := 6) (by decide) h)
theorem xe_6 {a : Nat} (h : a < 2 ^ 31) : (nI a = 6) = (a = 6) := propext (nI_eq (b := 6) h (by decide))
theorem xl_7 {a : Nat} (h : a < 2 ^ 31) : (nI a < 7) = (a < 7) := propext (nI_ltI (b := 7) h (by decide))
theorem xg_7 {a : Nat} (h : a < 2 ^ 31) : (7 < nI a) = (7 < a) := propext (nI_ltI (a := 7) (by decide) h)
theorem xe_7 {a : Nat} (h : a < 2 ^ 31) : (nI a = 7) = (a = 7) := propext (nI_eq (b := 7) h (by decide))
theorem xl_8 {a : Nat} (h : a < 2 ^ 31) : (nI a < 8) = (a < 8) := propext (nI_ltI (b := 8) h (by decide))
theorem xg_8 {a : Nat} (h : a < 2 ^ 31) : (8 < nI a) = (8 < a) := propext (nI_ltI (a := 8) (by decide) h)
theorem xe_8 {a : Nat} (h : a < 2 ^ 31) : (nI a = 8) = (a = 8) := propext (nI_eq (b := 8) h (by decide))
theorem xl_9 {a : Nat} (h : a < 2 ^ 31) : (nI a < 9) = (a < 9) := propext (nI_ltI (b := 9) h (by decide))
theorem xg_9 {a : Nat} (h : a < 2 ^ 31) : (9 < nI a) = (9 < a) := propext (nI_ltI (a := 9) (by decide) h)
theorem xe_9 {a : Nat} (h : a < 2 ^ 31) : (nI a = 9) = (a = 9) := propext (nI_eq (b := 9) h (by decide))
theorem xl_10 {a : Nat} (h : a < 2 ^ 31) : (nI a < 10) = (a < 10) := propext (nI_ltI (b := 10) h (by decide))
theorem xg_10 {a : Nat} (h : a < 2 ^ 31) : (10 < nI a) = (10 < a) := propext (nI_ltI (a := 10) (by decide) h)
theorem xe_10 {a : Nat} (h : a < 2 ^ 31) : (nI a = 10) = (a = 10) := propext (nI_eq (b := 10) h (by decide))
theorem xl_12 {a : Nat} (h : a < 2 ^ 31) : (nI a < 12) = (a < 12) := propext (nI_ltI (b := 12) h (by decide))
theorem xg_12 {a : Nat} (h : a < 2 ^ 31) : (12 < nI a) = (12 < a) := propext (nI_ltI (a := 12) (by decide) h)
theorem xe_12 {a : Nat} (h : a < 2 ^ 31) : (nI a = 12) = (a = 12) := propext (nI_eq (b := 12) h (by decide))
theorem xl_20 {a : Nat} (h : a < 2 ^ 31) : (nI a < 20) = (a < 20) := propext (nI_ltI (b := 20) h (by decide))
theorem xg_20 {a : Nat} (h : a < 2 ^ 31) : (20 < nI a) = (20 < a) := propext (nI_ltI (a := 20) (by decide) h)
theorem xe_20 {a : Nat} (h : a < 2 ^ 31) : (nI a = 20) = (a = 20) := propext (nI_eq (b := 20) h (by decide))
theorem xl_30 {a : Nat} (h : a < 2 ^ 31) : (nI a < 30) = (a < 30) := propext (nI_ltI (b := 30) h (by decide))
theorem xg_30 {a : Nat} (h : a < 2 ^ 31) : (30 < nI a) = (30 < a) := propext (nI_ltI (a := 30) (by decide) h)
theorem xe_30 {a : Nat} (h : a < 2 ^ 31) : (nI a = 30) = (a = 30) := propext (nI_eq (b := 30) h (by decide))
theorem xl_32 {a : Nat} (h : a < 2 ^ 31) : (nI a < 32) = (a < 32) := propext (nI_ltI (b := 32) h (by decide))
theorem xg_32 {a : Nat} (h : a < 2 ^ 31) : (32 < nI a) = (32 < a) := propext (nI_ltI (a := 32) (by decide) h)
theorem xe_32 {a : Nat} (h : a < 2 ^ 31) : (nI a = 32) = (a = 32) := propext (nI_eq (b := 32) h (by decide))
theorem xl_40 {a : Nat} (h : a < 2 ^ 31) : (nI a < 40) = (a < 40) := propext (nI_ltI (b := 40) h (by decide))
theorem xg_40 {a : Nat} (h : a < 2 ^ 31) : (40 < nI a) = (40 < a) := propext (nI_ltI (a := 40) (by decide) h)
theorem xe_40 {a : Nat} (h : a < 2 ^ 31) : (nI a = 40) = (a = 40) := propext (nI_eq (b := 40) h (by decide))
theorem xl_41 {a : Nat} (h : a < 2 ^ 31) : (nI a < 41) = (a < 41) := propext (nI_ltI (b := 41) h (by decide))
theorem xg_41 {a : Nat} (h : a < 2 ^ 31) : (41 < nI a) = (41 < a) := propext (nI_ltI (a := 41) (by decide) h)
theorem xe_41 {a : Nat} (h : a < 2 ^ 31) : (nI a = 41) = (a = 41) := propext (nI_eq (b := 41) h (by decide))
theorem xl_42 {a : Nat} (h : a < 2 ^ 31) : (nI a < 42) = (a < 42) := propext (nI_ltI (b := 42) h (by decide))
theorem xg_42 {a : Nat} (h : a < 2 ^ 31) : (42 < nI a) = (42 < a) := propext (nI_ltI (a := 42) (by decide) h)
theorem xe_42 {a : Nat} (h : a < 2 ^ 31) : (nI a = 42) = (a = 42) := propext (nI_eq (b := 42) h (by decide))
theorem xl_48 {a : Nat} (h : a < 2 ^ 31) : (nI a < 48) = (a < 48) := propext (nI_ltI (b := 48) h (by decide))
theorem xg_48 {a : Nat} (h : a < 2 ^ 31) : (48 < nI a) = (48 < a) := propext (nI_ltI (a := 48) (by decide) h)
theorem xe_48 {a : Nat} (h : a < 2 ^ 31) : (nI a = 48) = (a = 48) := propext (nI_eq (b := 48) h (by decide))
theorem xl_57 {a : Nat} (h : a < 2 ^ 31) : (nI a < 57) = (a < 57) := propext (nI_ltI (b := 57) h (by decide))
theorem xg_57 {a : Nat} (h : a < 2 ^ 31) : (57 < nI a) = (57 < a) := propext (nI_ltI (a := 57) (by decide) h)
theorem xe_57 {a : Nat} (h : a < 2 ^ 31) : (nI a = 57) = (a = 57) := propext (nI_eq (b := 57) h (by decide))
theorem xl_59 {a : Nat} (h : a < 2 ^ 31) : (nI a < 59) = (a < 59) := propext (nI_ltI (b := 59) h (by decide))
theorem xg_59 {a : Nat} (h : a < 2 ^ 31) : (59 < nI a) = (59 < a) := propext (nI_ltI (a := 59) (by decide) h)
theorem xe_59 {a : Nat} (h : a < 2 ^ 31) : (nI a = 59) = (a = 59) := propext (nI_eq (b := 59) h (by decide))
theorem xl_64 {a : Nat} (h : a < 2 ^ 31) : (nI a < 64) = (a < 64) := propext (nI_ltI (b := 64) h (by decide))
theorem xg_64 {a : Nat} (h : a < 2 ^ 31) : (64 < nI a) = (64 < a) := propext (nI_ltI (a := 64) (by decide) h)
theorem xe_64 {a : Nat} (h : a < 2 ^ 31) : (nI a = 64) = (a = 64) := propext (nI_eq (b := 64) h (by decide))
theorem xl_97 {a : Nat} (h : a < 2 ^ 31) : (nI a < 97) = (a < 97) := propext (nI_ltI (b := 97) h (by decide))
theorem xg_97 {a : Nat} (h : a < 2 ^ 31) : (97 < nI a) = (97 < a) := propext (nI_ltI (a := 97) (by decide) h)
theorem xe_97 {a : Nat} (h : a < 2 ^ 31) : (nI a = 97) = (a = 97) := propext (nI_eq (b := 97) h (by decide))
theorem xl_100 {a : Nat} (h : a < 2 ^ 31) : (nI a < 100) = (a < 100) := propext (nI_ltI (b := 100) h (by decide))
theorem xg_100 {a : Nat} (h : a < 2 ^ 31) : (100 < nI a) = (100 < a) := propext (nI_ltI (a := 100) (by decide) h)
theorem xe_100 {a : Nat} (h : a < 2 ^ 31) : (nI a = 100) = (a = 100) := propext (nI_eq (b := 100) h (by decide))
theorem xl_122 {a : Nat} (h : a < 2 ^ 31) : (nI a < 122) = (a < 122) := propext (nI_ltI (b := 122) h (by decide))
theorem xg_122 {a : Nat} (h : a < 2 ^ 31) : (122 < nI a) = (122 < a) := propext (nI_ltI (a := 122) (by decide) h)
theorem xe_122 {a : Nat} (h : a < 2 ^ 31) : (nI a = 122) = (a = 122) := propext (nI_eq (b := 122) h (by decide))
theorem xl_126 {a : Nat} (h : a < 2 ^ 31) : (nI a < 126) = (a < 126) := propext (nI_ltI (b := 126) h (by decide))
theorem xg_126 {a : Nat} (h : a < 2 ^ 31) : (126 < nI a) = (126 < a) := propext (nI_ltI (a := 126) (by decide) h)
theorem xe_126 {a : Nat} (h : a < 2 ^ 31) : (nI a = 126) = (a = 126) := propext (nI_eq (b := 126) h (by decide))
theorem xl_128 {a : Nat} (h : a < 2 ^ 31) : (nI a < 128) = (a < 128) := propext (nI_ltI (b := 128) h (by decide))
theorem xg_128 {a : Nat} (h : a < 2 ^ 31) : (128 < nI a) = (128 < a) := propext (nI_ltI (a := 128) (by decide) h)
theorem xe_128 {a : Nat} (h : a < 2 ^ 31) : (nI a = 128) = (a = 128) := propext (nI_eq (b := 128) h (by decide))
theorem xl_1000 {a : Nat} (h : a < 2 ^ 31) : (nI a < 1000) = (a < 1000) := propext (nI_ltI (b := 1000) h (by decide))
theorem xg_1000 {a : Nat} (h : a < 2 ^ 31) : (1000 < nI a) = (1000 < a) := propext (nI_ltI (a := 1000) (by decide) h)
theorem xe_1000 {a : Nat} (h : a < 2 ^ 31) : (nI a = 1000) = (a = 1000) := propext (nI_eq (b := 1000) h (by decide))
theorem xl_9999 {a : Nat} (h : a < 2 ^ 31) : (nI a < 9999) = (a < 9999) := propext (nI_ltI (b := 9999) h (by decide))
theorem xg_9999 {a : Nat} (h : a < 2 ^ 31) : (9999 < nI a) = (9999 < a) := propext (nI_ltI (a := 9999) (by decide) h)
theorem xe_9999 {a : Nat} (h : a < 2 ^ 31) : (nI a = 9999) = (a = 9999) := propext (nI_eq (b := 9999) h (by decide))
noncomputable def pB (P : Prop) : Bool := @decide P (Classical.propDecidable P)
theorem pB_iff {P : Prop} : pB P = true ↔ P := by unfold pB; exact @decide_eq_true_iff P (Classical.propDecidable P)
theorem pB_f {P : Prop} : pB P = false ↔ ¬ P := by
  unfold pB
  exact @decide_eq_false_iff_not P (Classical.propDecidable P)
theorem pB_congr {P Q : Prop} (h : P ↔ Q) : pB P = pB Q := by rw [propext h]
theorem pB_eq {P : Prop} {b : Bool} (h : b = true ↔ P) : b = pB P := by
  cases b with
  | true => rw [eq_comm, pB_iff]; exact h.1 rfl
  | false =>
    rw [eq_comm, pB_f]
    intro hp
    cases h.2 hp
theorem vin {i n : Nat} (h : i < n) (hn : n < 2 ^ 31) : vp_in (nI i) n = True := eq_true (nI_in h hn)
theorem nar_0 : vp_nar .boolean 0 = 0 := by decide +kernel
theorem nar_1 : vp_nar .boolean 1 = 1 := by decide +kernel
theorem b3_nI {s : Nat} (h : s < 2 ^ 32) (i : Nat) : b3 (nI s) i = s.testBit i := by
  show (BitVec.ofNat 32 s).getLsbD i = _
  rw [BitVec.getLsbD_ofNat]
  by_cases hi : i < 32
  · simp [hi]
  · simp [hi]
    exact Nat.testBit_lt_two_pow (Nat.lt_of_lt_of_le h (Nat.pow_le_pow_right (by decide) (show 32 ≤ i by omega)))
theorem nI_d64 {s : Nat} (h : s < 2 ^ 31) : nI s / 64 = nI (s / 64) := by
  apply Int32.toInt_inj.1
  rw [Int32.toInt_div, nI_toInt h, nI_toInt (by omega)]
  have e : ((64 : Int32)).toInt = 64 := by decide
  rw [e]
  have e2 : ((s : Int)).tdiv 64 = ((s / 64 : Nat) : Int) := by
    rw [Int.tdiv_eq_ediv_of_nonneg (by omega)]
    omega
  rw [e2]
  apply Int.bmod_eq_of_le <;> omega
theorem b3_63 : ∀ i, i < 32 → b3 63 i = decide (i < 6) := by decide +kernel
theorem nI_m64 {s : Nat} (h : s < 2 ^ 31) : nI s &&& 63 = nI (s % 64) := by
  apply b3_ext
  intro i hi
  rw [b3_and, b3_63 i hi, b3_nI (by omega), b3_nI (by omega), show 64 = 2 ^ 6 from rfl, Nat.testBit_mod_two_pow, Bool.and_comm]
theorem n12 (w : Nat) : (12 : Int32) + nI w = nI (12 + w) := nI_add 12 w
theorem nI_s1 {a : Nat} (h : 0 < a) : nI a - 1 = nI (a - 1) := by
  obtain ⟨b, rfl⟩ : ∃ b, a = b + 1 := ⟨a - 1, by omega⟩
  rw [nI_pred]; rfl
theorem nI_m {a b : Nat} (h : b ≤ a) : nI a - nI b = nI (a - b) := by
  have e : nI a = nI (a - b) + nI b := by rw [nI_add]; congr 1; omega
  rw [e]
  exact Int32.add_sub_cancel _ _
theorem nI_am1 {a : Nat} (h : 0 < a) : nI a + (-1) = nI (a - 1) := by
  rw [← nI_s1 h]
  exact (Int32.sub_eq_add_neg (nI a) 1).symm
theorem it31 (b : Bool) : ((if b = true then (1 : Int32) else 0) = 0) = (b = false) := by cases b <;> simp
theorem it32 (b : Bool) : ((if b = true then (1 : Int32) else 0) = 1) = (b = true) := by cases b <;> simp
theorem it61 (b : Bool) : ((if b = true then (1 : Int64) else 0) = 1) = (b = true) := by cases b <;> simp
theorem b3_a0 (x : Int32) {k : Nat} (h : k < 32) : ((x >>> (nI k &&& 31)) &&& 1 = 0) = (b3 x k = false) := by rw [b3_at x h, it31]
theorem b3_a1 (x : Int32) {k : Nat} (h : k < 32) : ((x >>> (nI k &&& 31)) &&& 1 = 1) = (b3 x k = true) := by rw [b3_at x h, it32]
