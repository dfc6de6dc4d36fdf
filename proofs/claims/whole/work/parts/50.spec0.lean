/-! What the small methods do. -/
abbrev cM1 : Type := Nat → Nat → Int32
abbrev cM2 : Type := Nat → Nat → Int64
abbrev cS (ro : ab_E) (d k : Nat) (as : List Value) (mi : cM1) (ml : cM2) (r : Option Value) (mi' : cM1) (ml' : cM2) : Prop := ab_sem ro ab_mt d k as (ab_G mi ml) r (ab_G mi' ml')
abbrev bI (b : Bool) : Int32 := if b = true then 1 else 0
theorem bI_or (b : Bool) : bI b = 0 ∨ bI b = 1 := by cases b <;> simp
theorem ab_ex {ro : ab_E} {d k : Nat} {as : List Value} {g : ab_S} {v : Option Value} {P : cM1 → cM2 → Prop} (h : ab_C ro d k as g (fun r g' => ∃ mi' ml', r = v ∧ g' = ab_G mi' ml' ∧ P mi' ml')) : ∃ mi' ml', ab_sem ro ab_mt d k as g v (ab_G mi' ml') ∧ P mi' ml' := by
  obtain ⟨r, g', h1, mi', ml', rfl, rfl, h2⟩ := h
  exact ⟨mi', ml', h1, h2⟩
theorem ui_app (m : cM1) (k j : Nat) (v : Int32) (a b : Nat) : ab_ui m k j v a b = if a = k then (if b = j then v else m a b) else m a b := by
  unfold ab_ui
  by_cases h : a = k
  · rw [if_pos h, if_pos h]; rfl
  · rw [if_neg h, if_neg h]
theorem ul_app (m : cM2) (k j : Nat) (v : Int64) (a b : Nat) : ab_ul m k j v a b = if a = k then (if b = j then v else m a b) else m a b := by
  unfold ab_ul
  by_cases h : a = k
  · rw [if_pos h, if_pos h]; rfl
  · rw [if_neg h, if_neg h]
theorem in_of {j n : Nat} (h : j < n) (hn : n < 2 ^ 31) : vp_in (nI j) n := nI_in h hn
def cSeen (mi : cM1) : Int32 := if mi 1 1 = -1 then mi 1 0 else mi 1 1
theorem s_seen {ro : ab_E} {d : Nat} {mi : cM1} {ml : cM2} : cS ro (d + 1) 13 [.ref 1] mi ml (some (.int (cSeen mi))) mi ml := by
  refine ab_sem_of rfl rfl (vc_X1_seen_0 mi ml ⟨fun c => ⟨?_, rfl⟩, fun c => ⟨?_, rfl⟩⟩) <;> simp [cSeen, c]
noncomputable def pI (P : Prop) : Int32 := @ite _ P (Classical.propDecidable P) 1 0
theorem pI_1 {P : Prop} (h : P) : pI P = 1 := by unfold pI; exact if_pos h
theorem pI_0 {P : Prop} (h : ¬ P) : pI P = 0 := by unfold pI; exact if_neg h
theorem pI_or (P : Prop) : pI P = 0 ∨ pI P = 1 := by
  by_cases h : P
  · exact Or.inr (pI_1 h)
  · exact Or.inl (pI_0 h)
theorem pI_e0 {P : Prop} : pI P = 0 ↔ ¬ P := by
  by_cases h : P
  · rw [pI_1 h]; simp [h]
  · rw [pI_0 h]; simp [h]
theorem pI_iff {P Q : Prop} (h : P ↔ Q) : pI P = pI Q := by rw [propext h]
theorem nI_63 : ∀ w, w < 128 → nI w &&& 63 = nI (w % 64) := by decide +kernel
theorem it01 (b : Bool) : ((if b = true then (1 : Int64) else 0) = 0) = (b = false) := by cases b <;> simp
theorem s_isSo {ro : ab_E} {d : Nat} {mi : cM1} {ml : cM2} (a b : Int64) {w : Nat} (hw : w < 128) : cS ro (d + 1) 143 [.long a, .long b, .int (nI w)] mi ml (some (.int (bI (if w < 64 then b6 a w else b6 b (w - 64))))) mi ml := by
  refine ab_sem_of rfl rfl (vc_X11_isSo_0 a b (nI w) mi ml ⟨fun c => ?_, fun c => ?_⟩)
  · have h : w < 64 := (nI_ltI (b := 64) (by omega) (by decide)).1 c
    rw [nI_63 w hw, Nat.mod_eq_of_lt h, lc_eq, b6_at a h, it01, if_pos h]
    exact ⟨fun c => ⟨by simp [c], rfl⟩, fun c => ⟨by simp [c], rfl⟩⟩
  · have h : ¬ w < 64 := fun h => c ((nI_ltI (b := 64) (by omega) (by decide)).2 h)
    rw [nI_63 w hw, show w % 64 = w - 64 by omega, lc_eq, b6_at b (by omega), it01, if_neg h]
    exact ⟨fun c => ⟨by simp [c], rfl⟩, fun c => ⟨by simp [c], rfl⟩⟩
theorem s_bc6 {ro : ab_E} {d : Nat} {mi : cM1} {ml : cM2} (x : Int64) : cS ro (d + 1) 243 [.long x] mi ml (some (.int (nI (pcn (b6 x) 64)))) mi ml := by
  refine ab_sem_of rfl rfl (vc_J13_bitCount_95d88_0 x mi ml ⟨?_, rfl⟩)
  rw [← jb6_eq]
  rfl
theorem s_bc3 {ro : ab_E} {d : Nat} {mi : cM1} {ml : cM2} (x : Int32) : cS ro (d + 1) 242 [.int x] mi ml (some (.int (nI (pcn (b3 x) 32)))) mi ml := by
  refine ab_sem_of rfl rfl (vc_J6_bitCount_0f7a4_0 x mi ml ⟨?_, rfl⟩)
  rw [← ib6_eq]
  rfl
/-- all of them at once -/
def anL (f : Nat → Int64) (P : Nat → Bool) : Nat → Int64
  | 0 => -1
  | n + 1 => if P n = true then anL f P n &&& f n else anL f P n
theorem anL_bit (f : Nat → Int64) (P : Nat → Bool) (j : Nat) : ∀ n, b6 (anL f P n) j = true ↔ j < 64 ∧ ∀ p, p < n → P p = true → b6 (f p) j = true
  | 0 => by
    show b6 (-1) j = true ↔ _
    rw [b6_m1]
    simp
  | n + 1 => by
    have ih := anL_bit f P j n
    show b6 (if P n = true then anL f P n &&& f n else anL f P n) j = true ↔ _
    by_cases h : P n = true
    · rw [if_pos h, b6_and, Bool.and_eq_true, ih]
      constructor
      · rintro ⟨⟨h1, h2⟩, h3⟩
        refine ⟨h1, fun p hp hP => ?_⟩
        rcases Nat.lt_or_eq_of_le (Nat.le_of_lt_succ hp) with h4 | h4
        · exact h2 p h4 hP
        · rw [h4]; exact h3
      · rintro ⟨h1, h2⟩
        exact ⟨⟨h1, fun p hp => h2 p (by omega)⟩, h2 n (by omega) h⟩
    · rw [if_neg h, ih]
      constructor
      · rintro ⟨h1, h2⟩
        refine ⟨h1, fun p hp hP => ?_⟩
        rcases Nat.lt_or_eq_of_le (Nat.le_of_lt_succ hp) with h4 | h4
        · exact h2 p h4 hP
        · rw [h4] at hP; exact absurd hP h
      · rintro ⟨h1, h2⟩
        exact ⟨h1, fun p hp => h2 p (by omega)⟩
theorem b6_ext_iff {x y : Int64} (h : ∀ i, i < 64 → (b6 x i = true ↔ b6 y i = true)) : x = y := b6_ext (fun i hi => by
  have := h i hi
  cases hx : b6 x i <;> cases hy : b6 y i <;> simp_all)
theorem anL_congr {f g : Nat → Int64} {P Q : Nat → Bool} {n m : Nat} (h : ∀ j, j < 64 → ((∀ p, p < n → P p = true → b6 (f p) j = true) ↔ (∀ p, p < m → Q p = true → b6 (g p) j = true))) : anL f P n = anL g Q m := by
  apply b6_ext_iff
  intro j hj
  rw [anL_bit, anL_bit, h j hj]
def mB (ml : cM2) (p : Nat) : Bool := b6 (ml 9 2) p
def oA (ml : cM2) (P : Nat → Bool) : Int64 := anL (ml 10) (fun p => P p && !mB ml p) 42
def oB (ml : cM2) (P : Nat → Bool) : Int64 := anL (ml 11) (fun p => P p && !mB ml p) 42
abbrev op (ml : cM2) (a b : Int64) : cM2 := ab_ul (ab_ul ml 9 4 a) 9 5 b
theorem all42 : ∀ i, i < 64 → b6 4398046511103 i = decide (i < 42) := by decide +kernel
set_option maxHeartbeats 1000000 in
theorem w_open {ro : ab_E} {d : Nat} {mi : cM1} {ml : cM2} (row : Int64) (R : Nat → Bool) : ∀ (m i : Nat) (rest a b : Int64), i + m = 42 → (∀ j, b6 rest j = true → i ≤ j ∧ j < 42 ∧ R j = true) → a = anL (ml 10) (fun p => R p && !b6 rest p) 42 → b = anL (ml 11) (fun p => R p && !b6 rest p) 42 →
    ab_W (ab_sem ro ab_mt (d + 1)) ro 0 0 (ab_lk2 pl_X6_open) (fun r g => r = none ∧ g = ab_G mi (op ml (anL (ml 10) R 42) (anL (ml 11) R 42))) (28, [some (.ref 9), some (.long row), none, some (.long a), none, some (.long b), none, some (.long rest), none, some (.int (nI i)), none], [], 0, 0, ab_G mi ml) := by
  have hz : ∀ (rest : Int64) (f : Nat → Int64), (∀ j, b6 rest j = false) → anL f (fun p => R p && !b6 rest p) 42 = anL f R 42 := fun rest f h => by
    congr 1
    funext p
    rw [h p]; simp
  intro m
  induction m with
  | zero =>
    intro i rest a b hi hr ha hb
    have h0 : ∀ j, b6 rest j = false := fun j => by
      cases h : b6 rest j with
      | false => rfl
      | true => have := hr j h; omega
    rw [hz rest _ h0] at ha hb
    refine vc_X6_open_28 row a b rest (nI i) mi ml ⟨fun c => ?_, fun c => ?_⟩
    · have : i < 42 := (nI_ltI (b := 42) (by omega) (by decide)).1 c
      omega
    · exact ⟨rfl, by rw [ha, hb]⟩
  | succ m ih =>
    intro i rest a b hi hr ha hb
    refine vc_X6_open_28 row a b rest (nI i) mi ml ⟨fun c => ⟨fun c2 => ?_, fun c2 => ?_⟩, fun c => ?_⟩
    · rw [lc_eq] at c2
      have h0 : ∀ j, b6 rest j = false := fun j => by rw [c2]; exact b6_0 j
      rw [hz rest _ h0] at ha hb
      exact ⟨rfl, by rw [ha, hb]⟩
    · rw [lc_eq] at c2
      obtain ⟨k, hk, h1, h2, h3, h4⟩ := b6_lowest c2
      obtain ⟨g1, g2, g3⟩ := hr k h1
      have e : nI (pcn (b6 ((rest &&& (-rest)) - 1)) 64) = nI k := by
        rw [h3, pcn_congr (g := fun j => decide (j < k)) (fun j hj => b6_low k hk j hj), pcn_lt, if_neg (by omega)]
      refine ⟨nI k, mi, ml, e ▸ s_bc6 _, in_of g2 (by decide), in_of g2 (by decide), ?_⟩
      rw [nI_clamp (by omega), nI_1]
      refine ih (i + 1) _ _ _ (by omega) ?_ ?_ ?_
      · intro j hj
        by_cases h6 : j < 64
        · rw [h4 j h6, Bool.and_eq_true] at hj
          have hjk : ¬ j = k := by simpa using hj.2
          have hlt : ¬ j < k := fun h => by rw [h2 j h] at hj; simp at hj
          have := hr j hj.1
          exact ⟨by omega, this.2⟩
        · rw [b6_ge _ (by omega)] at hj; cases hj
      · rw [ha]
        apply b6_ext_iff
        intro j hj
        rw [b6_and, Bool.and_eq_true, anL_bit, anL_bit]
        constructor
        · rintro ⟨⟨_, q1⟩, q2⟩
          refine ⟨hj, fun p hp hP => ?_⟩
          rw [h4 p (by omega)] at hP
          by_cases e : p = k
          · rw [e]; exact q2
          · exact q1 p hp (by simpa [e] using hP)
        · rintro ⟨_, q1⟩
          refine ⟨⟨hj, fun p hp hP => q1 p hp ?_⟩, q1 k g2 ?_⟩
          · rw [h4 p (by omega)]
            revert hP
            cases R p <;> cases b6 rest p <;> simp
          · rw [h4 k hk]
            simp [g3]
      · rw [hb]
        apply b6_ext_iff
        intro j hj
        rw [b6_and, Bool.and_eq_true, anL_bit, anL_bit]
        constructor
        · rintro ⟨⟨_, q1⟩, q2⟩
          refine ⟨hj, fun p hp hP => ?_⟩
          rw [h4 p (by omega)] at hP
          by_cases e : p = k
          · rw [e]; exact q2
          · exact q1 p hp (by simpa [e] using hP)
        · rintro ⟨_, q1⟩
          refine ⟨⟨hj, fun p hp hP => q1 p hp ?_⟩, q1 k g2 ?_⟩
          · rw [h4 p (by omega)]
            revert hP
            cases R p <;> cases b6 rest p <;> simp
          · rw [h4 k hk]
            simp [g3]
    · exact absurd ((nI_ltI (b := 42) (by omega) (by decide)).2 (by omega)) c
theorem s_open {ro : ab_E} {d : Nat} {mi : cM1} {ml : cM2} (row : Int64) : cS ro (d + 2) 50 [.ref 9, .long row] mi ml none mi (op ml (oA ml (b6 row)) (oB ml (b6 row))) := by
  refine ab_sem_of rfl rfl (vc_X6_open_0 row mi ml ?_)
  have hb : ∀ p, p < 64 → b6 ((row &&& ((ml 9 2) ^^^ (-1))) &&& 4398046511103) p = (b6 row p && !mB ml p && decide (p < 42)) := fun p hp => by
    rw [b6_and, b6_and, b6_not _ hp, all42 p hp]; rfl
  refine w_open row (fun p => b6 row p && !mB ml p) 42 0 _ _ _ rfl ?_ ?_ ?_
  · intro j hj
    by_cases h : j < 64
    · rw [hb j h] at hj
      simp only [Bool.and_eq_true, decide_eq_true_eq] at hj
      exact ⟨Nat.zero_le _, hj.2, by simp [hj.1]⟩
    · rw [b6_ge _ (by omega)] at hj; cases hj
  · apply b6_ext_iff
    intro j hj
    rw [anL_bit, b6_m1]
    simp only [hj, decide_true, true_and, true_iff]
    intro p hp hP
    rw [hb p (by omega)] at hP
    exfalso
    revert hP
    simp [hp]
  · apply b6_ext_iff
    intro j hj
    rw [anL_bit, b6_m1]
    simp only [hj, decide_true, true_and, true_iff]
    intro p hp hP
    rw [hb p (by omega)] at hP
    exfalso
    revert hP
    simp [hp]
