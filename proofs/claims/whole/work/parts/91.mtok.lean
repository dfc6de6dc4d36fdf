/-! The reference's tokens. -/
def hL (n : Nat) : Int64 := Int64.ofNat n
def pos (T : tSt) : Nat → Nat
  | 0 => 0
  | j + 1 => tE T (pos T j)
/-- the word's number of the letters from s on -/
def hN (T : tSt) (s : Nat) : Nat → Nat
  | 0 => 0
  | i + 1 => 37 * hN T s i + (T.2 (s + i) - 96)
def lh : List Nat → Nat
  | [] => 0
  | c :: r => 37 * lh r + c
/-- the class's word of the reference's word -/
def wm (w : Nat) : Nat := [0, 1, 7, 8, 9, 10, 13, 14, 11, 12, 3, 4, 5, 2, 6].getD w 0
/-- the reference's words, their last letter first -/
def wr (w : Nat) : List Nat := [[20, 19, 21, 13], [25, 1, 13], [18, 15], [4, 14, 1], [5, 21, 18, 20], [5, 19, 12, 1, 6], [20, 15, 14], [6, 15], [20, 19, 15, 13], [20, 19, 1, 5, 12], [5, 11, 9, 18, 20, 19], [16, 5, 5, 11], [5, 7, 14, 1, 8, 3], [15, 20], [4, 4, 1]].getD w []
def srO (k : Nat) : Nat := if k = 0 then 0 else if k = 2 then 1 else if k = 3 then 2 else if k = 7 then 4 else 3
def row (T : tSt) (j : Nat) (mi : cM1) (ml : cM2) : Prop := mi 43 j = nI (tS T (pos T j)) ∧ mi 42 j = nI (srO (tK T (pos T j))) ∧ (tK T (pos T j) = 2 → ml 44 j = hL (hN T (tS T (pos T j)) (tE T (pos T j) - tS T (pos T j)))) ∧ (tK T (pos T j) = 3 → ml 44 j = hL (nmv T (pos T j))) ∧ (4 ≤ tK T (pos T j) → tK T (pos T j) ≤ 6 → ml 44 j = hL (T.2 (tS T (pos T j))))
/-- all is cut -/
def MT (T : tSt) (mi : cM1) (ml : cM2) : Prop := ∃ N, N ≤ 1000 ∧ tK T (pos T N) = 0 ∧ (∀ j, j < N → ¬ tK T (pos T j) = 0) ∧ ∀ j, j ≤ N → row T j mi ml
section HN
variable {T : tSt}
theorem hL_e {a b : Nat} (ha : a < 2 ^ 63) (hb : b < 2 ^ 63) : (hL a = hL b) ↔ a = b := by
  refine ⟨fun h => ?_, fun h => by rw [h]⟩
  have := congrArg (fun x : Int64 => x.toBitVec.toNat) h
  have e : ∀ n, n < 2 ^ 63 → (hL n).toBitVec.toNat = n := fun n hn => by
    show (BitVec.ofNat 64 n).toNat = n
    rw [BitVec.toNat_ofNat]; omega
  rw [← e a ha, ← e b hb]; exact this
theorem hL_add (a b : Nat) : hL a + hL b = hL (a + b) := (Int64.ofNat_add a b).symm
theorem hL_mul (a b : Nat) : hL a * hL b = hL (a * b) := (Int64.ofNat_mul a b).symm
theorem hL_i : ∀ c, c < 128 → (nI c).toInt64 = hL c := by decide +kernel
theorem hL_s {a : Nat} (h : 48 ≤ a) : hL a - 48 = hL (a - 48) := by
  have e : a = (a - 48) + 48 := by omega
  have : hL a = hL (a - 48) + 48 := by
    conv => lhs; rw [e]
    rw [← hL_add]; rfl
  rw [this, Int64.add_sub_cancel]
theorem hN_lt {s : Nat} : ∀ {n : Nat}, (∀ i, i < n → T.2 (s + i) ≤ 122) → hN T s n < 37 ^ n
  | 0, _ => Nat.zero_lt_one
  | n + 1, h => by
    have h1 := hN_lt (n := n) (fun i hi => h i (by omega))
    have h2 := h n (by omega)
    show 37 * hN T s n + (T.2 (s + n) - 96) < 37 ^ (n + 1)
    rw [Nat.pow_succ]; omega
theorem hN_e {s : Nat} : ∀ {n : Nat} {r : List Nat}, (∀ i, i < n → 97 ≤ T.2 (s + i) ∧ T.2 (s + i) ≤ 122) → (∀ c ∈ r, 1 ≤ c ∧ c ≤ 26) → (hN T s n = lh r ↔ n = r.length ∧ ∀ i, i < n → T.2 (s + i) = 96 + r.getD (n - 1 - i) 0)
  | 0, [], _, _ => ⟨fun _ => ⟨rfl, fun i hi => absurd hi (Nat.not_lt_zero i)⟩, fun _ => rfl⟩
  | 0, c :: r, _, hr => by
    have := hr c (List.mem_cons_self ..)
    refine ⟨fun h => ?_, fun h => absurd h.1 (by simp)⟩
    have h : 0 = 37 * lh r + c := h
    omega
  | n + 1, [], hT, _ => by
    have := hT n (by omega)
    refine ⟨fun h => ?_, fun h => absurd h.1 (by simp)⟩
    have h : 37 * hN T s n + (T.2 (s + n) - 96) = 0 := h
    omega
  | n + 1, c :: r, hT, hr => by
    have h1 := hT n (by omega)
    have h2 := hr c (List.mem_cons_self ..)
    have ih := hN_e (s := s) (n := n) (r := r) (fun i hi => hT i (by omega)) (fun c hc => hr c (List.mem_cons_of_mem _ hc))
    have e : (hN T s (n + 1) = lh (c :: r)) ↔ (hN T s n = lh r ∧ T.2 (s + n) = 96 + c) := by
      show (37 * hN T s n + (T.2 (s + n) - 96) = 37 * lh r + c) ↔ _
      omega
    rw [e, ih]
    constructor
    · rintro ⟨⟨e1, e2⟩, e3⟩
      refine ⟨by simp [e1], fun i hi => ?_⟩
      by_cases q : i = n
      · rw [q, e3]; simp
      · rw [e2 i (by omega)]
        have : n + 1 - 1 - i = (n - 1 - i) + 1 := by omega
        rw [this]; simp
    · rintro ⟨e1, e2⟩
      refine ⟨⟨by simpa using e1, fun i hi => ?_⟩, ?_⟩
      · rw [e2 i (by omega)]
        have : n + 1 - 1 - i = (n - 1 - i) + 1 := by omega
        rw [this]; simp
      · rw [e2 n (by omega)]; simp
theorem kd_2 {q : Nat} (h : kd T q = 2) : 97 ≤ T.2 q ∧ T.2 q ≤ 122 := by
  have := kd_lt h (by decide)
  unfold kd at h; rw [if_pos this] at h
  unfold srt at h
  revert h; (repeat' split) <;> omega
theorem wd_k {p : Nat} (h : tK T p = 2) : kd T (tS T p) = 2 ∧ tE T p - tS T p ≤ 8 ∧ tE T p = rn T 2 (tS T p) := by
  have k3 : kd T (tS T p) = 2 ∧ tE T p - tS T p ≤ 8 := by
    unfold tK at h
    by_cases q : (kd T (tS T p) = 2 ∧ 8 < tE T p - tS T p) ∨ (kd T (tS T p) = 3 ∧ 3 < tE T p - tS T p)
    · rw [if_pos q] at h; omega
    · rw [if_neg q] at h
      exact ⟨h, by omega⟩
  refine ⟨k3.1, k3.2, ?_⟩
  unfold tE
  rw [k3.1, if_pos (Or.inl rfl)]
theorem wd_let {p : Nat} (h : tK T p = 2) {j : Nat} (hj : j < tE T p - tS T p) : 97 ≤ T.2 (tS T p + j) ∧ T.2 (tS T p + j) ≤ 122 := by
  obtain ⟨k3, hl, he⟩ := wd_k h
  exact kd_2 (rnf_all 1001 (tS T p) _ (by omega) (by show tS T p + j < rn T 2 (tS T p); omega))
theorem wr_ok : ∀ w, w < 15 → (∀ c ∈ wr w, 1 ≤ c ∧ c ≤ 26) ∧ wlen (wm w) = (wr w).length ∧ (∀ i, i < (wr w).length → ab_sb (wm w) i = nI (96 + (wr w).getD ((wr w).length - 1 - i) 0)) ∧ wds.getD w 0 = hL (lh (wr w)) ∧ lh (wr w) < 2 ^ 63 ∧ (∀ i, i < 8 → (wr w).getD i 0 ≤ 26) ∧ (wr w).length ≤ 8 := by decide +kernel
/-- words by their numbers -/
theorem wd_h {p w : Nat} (hw : w < 15) (h2 : tK T p = 2) : (hL (hN T (tS T p) (tE T p - tS T p)) = wds.getD w 0) ↔ wdP T (wm w) p := by
  obtain ⟨a, b, c, e, f, g, g8⟩ := wr_ok w hw
  have hl := (wd_k h2).2.1
  have lt := hN_lt (T := T) (s := tS T p) (n := tE T p - tS T p) (fun i hi => (wd_let h2 hi).2)
  have l8 : 37 ^ (tE T p - tS T p) ≤ 37 ^ 8 := Nat.pow_le_pow_right (by decide) hl
  rw [e, hL_e (by have : 37 ^ 8 < 2 ^ 63 := by decide
                  omega) f, hN_e (fun i hi => wd_let h2 hi) a]
  unfold wdP
  rw [b]
  refine ⟨fun h => ⟨h2, h.1, fun i hi => ?_⟩, fun h => ⟨h.2.1, fun i hi => ?_⟩⟩
  · rw [h.2 i (by omega), c i hi, h.1]
  · have := h.2.2 i (by omega)
    rw [c i (by omega), nI_eq (by have := (wd_let h2 hi).2; omega) (by have := g ((wr w).length - 1 - i) (by omega); omega)] at this
    rw [this, h.2.1]
theorem at_h {p a : Nat} (ha : a < 7) (h2 : tK T p = 2) : (hL (hN T (tS T p) (tE T p - tS T p)) = wds.getD (15 + a) 0) ↔ atP T p = a := by
  have e : ∀ a, a < 7 → wds.getD (15 + a) 0 = hL (lh [a + 1]) := by decide +kernel
  have hl := (wd_k h2).2.1
  have lt := hN_lt (T := T) (s := tS T p) (n := tE T p - tS T p) (fun i hi => (wd_let h2 hi).2)
  have l8 : 37 ^ (tE T p - tS T p) ≤ 37 ^ 8 := Nat.pow_le_pow_right (by decide) hl
  have f : lh [a + 1] < 2 ^ 63 := by show 37 * 0 + (a + 1) < 2 ^ 63; omega
  rw [e a ha, hL_e (by have : 37 ^ 8 < 2 ^ 63 := by decide
                       omega) f, hN_e (fun i hi => wd_let h2 hi) (fun c hc => by simp at hc; omega)]
  unfold atP
  constructor
  · rintro ⟨h1, h3⟩
    have h1 : tE T p - tS T p = 1 := h1
    have h4 := h3 0 (by omega)
    rw [h1] at h4
    have h4 : T.2 (tS T p) = 96 + (a + 1) := h4
    rw [if_pos ⟨h2, h1, by omega⟩]; omega
  · intro h
    by_cases c : tK T p = 2 ∧ tE T p - tS T p = 1 ∧ T.2 (tS T p) < 104
    · rw [if_pos c] at h
      refine ⟨c.2.1, fun i hi => ?_⟩
      have i0 : i = 0 := by omega
      have := (wd_let h2 hi).1
      rw [i0] at this ⊢
      rw [c.2.1]
      show T.2 (tS T p + 0) = 96 + (a + 1)
      have e0 : tS T p + 0 = tS T p := rfl
      rw [e0] at this ⊢
      omega
    · rw [if_neg c] at h; omega
theorem pos_le (T : tSt) : ∀ j, pos T j ≤ T.1
  | 0 => Nat.zero_le _
  | j + 1 => tE_le T (pos_le T j)
end HN
