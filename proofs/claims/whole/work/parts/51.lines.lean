/-! What the class's Lines do. -/
theorem op_op (ml : cM2) (a b a' b' : Int64) : op (op ml a b) a' b' = op ml a' b' := by
  funext x y
  simp only [op, ul_app]
  by_cases h : x = 9
  · by_cases h5 : y = 5
    · simp [h, h5]
    · by_cases h4 : y = 4
      · simp [h, h4]
      · simp [h, h5, h4]
  · simp [h]
theorem op_10 (ml : cM2) (a b : Int64) : (op ml a b) 10 = ml 10 := by funext y; simp [op, ul_app]
theorem op_11 (ml : cM2) (a b : Int64) : (op ml a b) 11 = ml 11 := by funext y; simp [op, ul_app]
theorem op_x (ml : cM2) (a b : Int64) {x : Nat} (h : ¬ x = 9) : (op ml a b) x = ml x := by funext y; simp [op, ul_app, h]
theorem op_92 (ml : cM2) (a b : Int64) : (op ml a b) 9 2 = ml 9 2 := by simp [op, ul_app]
theorem op_94 (ml : cM2) (a b : Int64) : (op ml a b) 9 4 = a := by simp [op, ul_app]
theorem op_95 (ml : cM2) (a b : Int64) : (op ml a b) 9 5 = b := by simp [op, ul_app]
theorem op_mB (ml : cM2) (a b : Int64) : mB (op ml a b) = mB ml := by funext p; unfold mB; rw [op_92]
theorem op_oA (ml : cM2) (a b : Int64) : oA (op ml a b) = oA ml := by funext P; unfold oA; rw [op_10, op_mB]
theorem op_oB (ml : cM2) (a b : Int64) : oB (op ml a b) = oB ml := by funext P; unfold oB; rw [op_11, op_mB]
theorem s_openWorlds {ro : ab_E} {d : Nat} {mi : cM1} {ml : cM2} (row : Int64) : cS ro (d + 3) 51 [.ref 9, .long row] mi ml (some (.int (nI (pcn (b6 (oA ml (b6 row))) 64 + pcn (b6 (oB ml (b6 row))) 64)))) mi (op ml (oA ml (b6 row)) (oB ml (b6 row))) := by
  refine ab_sem_of rfl rfl (vc_X6_openWorlds_0 row mi ml ⟨_, _, s_open row, _, _, _, s_bc6 _, _, _, _, s_bc6 _, ?_, rfl⟩)
  rw [op_94, op_95, nI_add]
theorem s_allows {ro : ab_E} {d : Nat} {mi : cM1} {ml : cM2} (row : Int64) {w : Nat} (hw : w < 128) : cS ro (d + 3) 52 [.ref 9, .long row, .int (nI w)] mi ml (some (.int (bI (if w < 64 then b6 (oA ml (b6 row)) w else b6 (oB ml (b6 row)) (w - 64))))) mi (op ml (oA ml (b6 row)) (oB ml (b6 row))) := by
  refine ab_sem_of rfl rfl (vc_X6_allows_0 row (nI w) mi ml ⟨_, _, s_open row, _, _, _, s_isSo _ _ hw, bI_or _, ?_, rfl⟩)
  rw [op_94, op_95]
theorem s_whole {ro : ab_E} {d : Nat} {mi : cM1} {ml : cM2} : cS ro (d + 1) 48 [.ref 9] mi ml (some (.long ((1 : Int64) <<< ((mi 9 3).toInt64 &&& 63) - 1))) mi ml := ab_sem_of rfl rfl (vc_X6_whole_0 mi ml ⟨rfl, rfl⟩)
theorem s_isMay {ro : ab_E} {d : Nat} {mi : cM1} {ml : cM2} {p : Nat} (hp : p < 64) : cS ro (d + 1) 49 [.ref 9, .int (nI p)] mi ml (some (.int (bI (mB ml p)))) mi ml := by
  refine ab_sem_of rfl rfl (vc_X6_isMay_0 (nI p) mi ml ?_)
  rw [lc_eq, b6_at _ hp, it01]
  exact ⟨fun c => ⟨by simp [mB, c], rfl⟩, fun c => ⟨by simp [mB, c], rfl⟩⟩
/-- r is the first place below n with P, or -1 -/
def isF (P : Nat → Prop) (n : Nat) (r : Int32) : Prop := (∃ i, i < n ∧ P i ∧ (∀ j, j < i → ¬ P j) ∧ r = nI i) ∨ ((∀ i, i < n → ¬ P i) ∧ r = -1)
theorem isF_u {P Q : Nat → Prop} {n : Nat} {r s : Int32} (h : isF P n r) (h' : isF Q n s) (e : ∀ i, i < n → (P i ↔ Q i)) : r = s := by
  rcases h with ⟨i, h1, h2, h3, rfl⟩ | ⟨h1, rfl⟩ <;> rcases h' with ⟨k, g1, g2, g3, rfl⟩ | ⟨g1, rfl⟩
  · have : i = k := by
      rcases Nat.lt_trichotomy i k with h | h | h
      · exact absurd ((e i h1).1 h2) (g3 i h)
      · exact h
      · exact absurd ((e k g1).2 g2) (h3 k h)
    rw [this]
  · exact absurd ((e i h1).1 h2) (g1 i h1)
  · exact absurd ((e k g1).2 g2) (h1 k g1)
  · rfl
/-- the may at p is so in none of the worlds a, b -/
def vn (ml : cM2) (P : Nat → Bool) (a b : Int64) (p : Nat) : Prop := P p = true ∧ mB ml p = true ∧ (a &&& ml 10 p ||| b &&& ml 11 p) = 0
theorem w_inVain {ro : ab_E} {d : Nat} {mi : cM1} {ml : cM2} (row : Int64) : ∀ (m i : Nat) (rest : Int64), i + m = 42 → (∀ j, b6 rest j = true → i ≤ j ∧ j < 42 ∧ b6 row j = true ∧ mB ml j = true) → (∀ j, j < 42 → b6 row j = true → mB ml j = true → b6 rest j = false → ¬ vn ml (b6 row) (ml 9 4) (ml 9 5) j) →
    ab_W (ab_sem ro ab_mt (d + 1)) ro 0 0 (ab_lk2 pl_X6_inVain) (fun r g => ∃ v, r = some (.int v) ∧ g = ab_G mi ml ∧ isF (vn ml (b6 row) (ml 9 4) (ml 9 5)) 42 v) (14, [some (.ref 9), some (.long row), none, some (.long rest), none, some (.int (nI i)), none], [], 0, 0, ab_G mi ml) := by
  intro m
  induction m with
  | zero =>
    intro i rest hi hr hd
    have h0 : ∀ j, b6 rest j = false := fun j => by
      cases h : b6 rest j with
      | false => rfl
      | true => have := hr j h; omega
    refine vc_X6_inVain_14 row rest (nI i) mi ml ⟨fun c => ?_, fun c => ?_⟩
    · have : i < 42 := (nI_ltI (b := 42) (by omega) (by decide)).1 c
      omega
    · exact ⟨-1, rfl, rfl, Or.inr ⟨fun j hj hv => hd j hj hv.1 hv.2.1 (h0 j) hv, rfl⟩⟩
  | succ m ih =>
    intro i rest hi hr hd
    refine vc_X6_inVain_14 row rest (nI i) mi ml ⟨fun c => ⟨fun c2 => ?_, fun c2 => ?_⟩, fun c => ?_⟩
    · rw [lc_eq] at c2
      have h0 : ∀ j, b6 rest j = false := fun j => by rw [c2]; exact b6_0 j
      exact ⟨-1, rfl, rfl, Or.inr ⟨fun j hj hv => hd j hj hv.1 hv.2.1 (h0 j) hv, rfl⟩⟩
    · rw [lc_eq] at c2
      obtain ⟨k, hk, h1, h2, h3, h4⟩ := b6_lowest c2
      obtain ⟨g1, g2, g3, g4⟩ := hr k h1
      have e : nI (pcn (b6 ((rest &&& (-rest)) - 1)) 64) = nI k := by
        rw [h3, pcn_congr (g := fun j => decide (j < k)) (fun j hj => b6_low k hk j hj), pcn_lt, if_neg (by omega)]
      refine ⟨nI k, mi, ml, e ▸ s_bc6 _, in_of g2 (by decide), in_of g2 (by decide), ?_⟩
      rw [nI_clamp (by omega), nI_1, lc_eq]
      refine ⟨fun c3 => ⟨nI k, rfl, rfl, Or.inl ⟨k, g2, ⟨g3, g4, c3⟩, fun j hj hv => ?_, rfl⟩⟩, fun c3 => ?_⟩
      · exact hd j (by omega) hv.1 hv.2.1 (h2 j hj) hv
      · refine ih (i + 1) _ (by omega) ?_ ?_
        · intro j hj
          by_cases h6 : j < 64
          · rw [h4 j h6, Bool.and_eq_true] at hj
            have hjk : ¬ j = k := by simpa using hj.2
            have hlt : ¬ j < k := fun h => by rw [h2 j h] at hj; simp at hj
            have := hr j hj.1
            exact ⟨by omega, this.2⟩
          · rw [b6_ge _ (by omega)] at hj; cases hj
        · intro j hj q1 q2 q3 hv
          rw [h4 j (by omega)] at q3
          by_cases e : j = k
          · rw [e] at hv; exact c3 hv.2.2
          · exact hd j hj q1 q2 (by simpa [e] using q3) hv
    · exact absurd ((nI_ltI (b := 42) (by omega) (by decide)).2 (by omega)) c
theorem s_inVain {ro : ab_E} {d : Nat} {mi : cM1} {ml : cM2} (row : Int64) : ∃ v, cS ro (d + 2) 54 [.ref 9, .long row] mi ml (some (.int v)) mi ml ∧ isF (vn ml (b6 row) (ml 9 4) (ml 9 5)) 42 v := by
  have hb : ∀ p, p < 64 → b6 ((row &&& (ml 9 2)) &&& 4398046511103) p = (b6 row p && mB ml p && decide (p < 42)) := fun p hp => by
    rw [b6_and, b6_and, all42 p hp]; rfl
  have hw := w_inVain (ro := ro) (d := d) (mi := mi) (ml := ml) row 42 0 ((row &&& (ml 9 2)) &&& 4398046511103) rfl (fun j hj => by
    by_cases h : j < 64
    · rw [hb j h] at hj
      simp only [Bool.and_eq_true, decide_eq_true_eq] at hj
      exact ⟨Nat.zero_le _, hj.2, hj.1.1, hj.1.2⟩
    · rw [b6_ge _ (by omega)] at hj; cases hj) (fun j hj h1 h2 h3 => by
    rw [hb j (by omega), h1, h2] at h3
    simp [hj] at h3)
  obtain ⟨r, g, hs, v, rfl, rfl, hv⟩ := ab_C_of (k := 54) (as := [.ref 9, .long row]) rfl rfl (vc_X6_inVain_0 row mi ml hw)
  exact ⟨v, hs, hv⟩
/-- what a law of places P comes to: 2 no world, 3 a may in vain, 0 -/
noncomputable def cQ (ml : cM2) (P : Nat → Bool) : Int32 := @ite _ (oA ml P = 0 ∧ oB ml P = 0) (Classical.propDecidable _) 2 (@ite _ (∃ p, p < 42 ∧ vn ml P (oA ml P) (oB ml P) p) (Classical.propDecidable _) 3 0)
theorem or6_0 (a b : Int64) : (a ||| b) = 0 ↔ a = 0 ∧ b = 0 := by
  rw [b6_zero, b6_zero, b6_zero]
  constructor
  · intro h
    exact ⟨fun i hi => by have := h i hi; rw [b6_or, Bool.or_eq_false_iff] at this; exact this.1, fun i hi => by have := h i hi; rw [b6_or, Bool.or_eq_false_iff] at this; exact this.2⟩
  · rintro ⟨h1, h2⟩ i hi
    rw [b6_or, h1 i hi, h2 i hi]; rfl
theorem op_vn (ml : cM2) (a b : Int64) : vn (op ml a b) = vn ml := by
  funext P x y p
  unfold vn
  rw [op_mB, op_10, op_11]
theorem nI_m1 {i : Nat} (h : i < 2 ^ 31) : ¬ nI i = -1 := fun e => by
  have h1 := nI_pos h
  rw [e] at h1
  exact h1 (by decide)
theorem s_quarrel {ro : ab_E} {d : Nat} {mi : cM1} {ml : cM2} (row : Int64) : cS ro (d + 3) 53 [.ref 9, .long row] mi ml (some (.int (cQ ml (b6 row)))) mi (op ml (oA ml (b6 row)) (oB ml (b6 row))) := by
  refine ab_sem_of rfl rfl (vc_X6_quarrel_0 row mi ml ⟨_, _, s_open row, ?_⟩)
  rw [op_94, op_95, lc_eq, or6_0]
  refine ⟨fun c => ⟨?_, rfl⟩, fun c => ?_⟩
  · unfold cQ
    rw [if_pos c]
  · obtain ⟨v, h1, h2⟩ := s_inVain (ro := ro) (d := d) (mi := mi) (ml := op ml (oA ml (b6 row)) (oB ml (b6 row))) row
    rw [op_94, op_95, op_vn] at h2
    refine ⟨v, _, _, h1, fun c2 => ⟨?_, rfl⟩, fun c2 => ⟨?_, rfl⟩⟩
    · unfold cQ
      rw [if_neg c, if_neg]
      rintro ⟨p, hp, hv⟩
      rcases h2 with ⟨i, q1, _, _, q4⟩ | ⟨q, _⟩
      · rw [q4] at c2; exact nI_m1 (by omega) c2
      · exact q p hp hv
    · unfold cQ
      rw [if_neg c, if_pos]
      rcases h2 with ⟨i, q1, q2, _, _⟩ | ⟨_, q⟩
      · exact ⟨i, q1, q2⟩
      · exact absurd q c2
/-- each may of the places N has its like among those of P -/
def hM (ml : cM2) (P N : Nat → Bool) : Prop := ∀ p, p < 42 → N p = true → mB ml p = true → ∃ o, o < 42 ∧ P o = true ∧ mB ml o = true ∧ ml 10 p = ml 10 o ∧ ml 11 p = ml 11 o
theorem w_has {ro : ab_E} {d : Nat} {mi : cM1} {ml : cM2} (row needed mis there : Int64) (hmis : ∀ p, p < 64 → b6 mis p = (b6 needed p && !b6 row p && mB ml p)) (hth : ∀ p, b6 there p = (b6 row p && mB ml p)) :
    ∀ (m p : Nat), p + m = 42 → (∀ q, q < p → b6 needed q = true → mB ml q = true → ∃ o, o < 42 ∧ b6 row o = true ∧ mB ml o = true ∧ ml 10 q = ml 10 o ∧ ml 11 q = ml 11 o) →
    ab_W (ab_sem ro ab_mt d) ro 0 0 (ab_lk2 pl_X6_hasMays) (fun r g => r = some (.int (pI (hM ml (b6 row) (b6 needed)))) ∧ g = ab_G mi ml) (25, [some (.ref 9), some (.long row), none, some (.long needed), none, some (.long mis), none, some (.long there), none, some (.int (nI p)), none, none], [], 0, 0, ab_G mi ml) := by
  intro m
  induction m with
  | zero =>
    intro p hp hq
    refine vc_X6_hasMays_25 row needed mis there (nI p) mi ml ⟨fun c => ?_, fun c => ⟨?_, rfl⟩⟩
    · have : p < 42 := (nI_ltI (b := 42) (by omega) (by decide)).1 c
      omega
    · rw [pI_1]
      intro q hq2
      exact hq q (by omega)
  | succ m ih =>
    intro p hp hq
    -- the inner loop
    have inner : ∀ (m2 o : Nat) (f : Bool), o + m2 = 42 → (f = true → b6 needed p = true → mB ml p = true → ∃ o, o < 42 ∧ b6 row o = true ∧ mB ml o = true ∧ ml 10 p = ml 10 o ∧ ml 11 p = ml 11 o) → (f = false → b6 needed p = true ∧ mB ml p = true ∧ ∀ x, x < o → b6 row x = true → mB ml x = true → ¬ (ml 10 p = ml 10 x ∧ ml 11 p = ml 11 x)) →
        ab_W (ab_sem ro ab_mt d) ro 0 0 (ab_lk2 pl_X6_hasMays) (fun r g => r = some (.int (pI (hM ml (b6 row) (b6 needed)))) ∧ g = ab_G mi ml) (64, [some (.ref 9), some (.long row), none, some (.long needed), none, some (.long mis), none, some (.long there), none, some (.int (nI p)), some (.int (bI f)), some (.int (nI o))], [], 0, 0, ab_G mi ml) := by
      intro m2
      induction m2 with
      | zero =>
        intro o f ho h1 h2
        refine vc_X6_hasMays_64 row needed mis there (nI p) (bI f) (nI o) mi ml ⟨fun c => ?_, fun c => ⟨fun c2 => ⟨?_, rfl⟩, fun c2 => ?_⟩⟩
        · have : o < 42 := (nI_ltI (b := 42) (by omega) (by decide)).1 c
          omega
        · have hf : f = false := by cases f <;> simp_all
          obtain ⟨g1, g2, g3⟩ := h2 hf
          rw [pI_0]
          intro h
          obtain ⟨x, q1, q2, q3, q4⟩ := h p (by omega) g1 g2
          exact g3 x (by omega) q2 q3 q4
        · have hf : f = true := by cases f <;> simp_all
          rw [nI_1]
          refine ih (p + 1) (by omega) (fun q hq2 => ?_)
          rcases Nat.lt_or_eq_of_le (Nat.le_of_lt_succ hq2) with h4 | h4
          · exact hq q h4
          · rw [h4]; exact h1 hf
      | succ m2 ih2 =>
        intro o f ho h1 h2
        have ho2 : o < 42 := by omega
        have hp2 : p < 42 := by omega
        refine vc_X6_hasMays_64 row needed mis there (nI p) (bI f) (nI o) mi ml ⟨fun c => ⟨fun c2 => ?_, fun c2 => ?_⟩, fun c => ?_⟩
        · have hf : f = false := by cases f <;> simp_all
          obtain ⟨g1, g2, g3⟩ := h2 hf
          rw [lc_eq, b6_at _ (by omega), it01, nI_clamp (by omega), nI_clamp (by omega), lc_eq, lc_eq, nI_1, hth o]
          have next : (b6 row o = true → mB ml o = true → ¬ (ml 10 p = ml 10 o ∧ ml 11 p = ml 11 o)) → ab_W (ab_sem ro ab_mt d) ro 0 0 (ab_lk2 pl_X6_hasMays) (fun r g => r = some (.int (pI (hM ml (b6 row) (b6 needed)))) ∧ g = ab_G mi ml) (64, [some (.ref 9), some (.long row), none, some (.long needed), none, some (.long mis), none, some (.long there), none, some (.int (nI p)), some (.int 0), some (.int (nI (o + 1)))], [], 0, 0, ab_G mi ml) := fun hno =>
            ih2 (o + 1) false (by omega) (fun h => by cases h) (fun _ => ⟨g1, g2, fun x hx => by
              rcases Nat.lt_or_eq_of_le (Nat.le_of_lt_succ hx) with h4 | h4
              · exact g3 x h4
              · rw [h4]; exact hno⟩)
          refine ⟨fun c3 => next (fun q1 q2 => by rw [q1, q2] at c3; cases c3), fun c3 => ⟨in_of hp2 (by decide), in_of ho2 (by decide), fun c4 => ⟨in_of hp2 (by decide), in_of ho2 (by decide), fun c5 => ?_, fun c5 => next (fun _ _ h => c5 h.2)⟩, fun c4 => next (fun _ _ h => c4 h.1)⟩⟩
          have c3' : b6 row o = true ∧ mB ml o = true := by
            revert c3
            cases b6 row o <;> cases mB ml o <;> simp
          exact ih2 (o + 1) true (by omega) (fun _ _ _ => ⟨o, ho2, c3'.1, c3'.2, c4, c5⟩) (fun h => by cases h)
        · refine ⟨fun c3 => absurd c3 c2, fun _ => ?_⟩
          have hf : f = true := by cases f <;> simp_all
          rw [nI_1]
          refine ih (p + 1) (by omega) (fun q hq2 => ?_)
          rcases Nat.lt_or_eq_of_le (Nat.le_of_lt_succ hq2) with h4 | h4
          · exact hq q h4
          · rw [h4]; exact h1 hf
        · exact absurd ((nI_ltI (b := 42) (by omega) (by decide)).2 (by omega)) c
    refine vc_X6_hasMays_25 row needed mis there (nI p) mi ml ⟨fun c => ?_, fun c => ?_⟩
    · rw [lc_eq, lc_eq, b6_at _ (by omega), it01, hmis p (by omega)]
      refine ⟨fun c2 => ⟨?_, rfl⟩, fun c2 => ⟨fun c3 => ?_, fun c3 => ?_⟩⟩
      · rw [pI_1]
        intro q hq2 n1 n2
        by_cases hqp : q < p
        · exact hq q hqp n1 n2
        · have := b6_done (by omega) c2 (i := q) (by omega)
          rw [hmis q (by omega), n1, n2] at this
          exact ⟨q, hq2, by simpa using this, n2, rfl, rfl⟩
      · refine inner 42 0 true rfl (fun _ n1 n2 => ?_) (fun h => by cases h)
        rw [n1, n2] at c3
        exact ⟨p, by omega, by simpa using c3, n2, rfl, rfl⟩
      · refine inner 42 0 false rfl (fun h => by cases h) (fun _ => ⟨?_, ?_, fun x hx => absurd hx (Nat.not_lt_zero x)⟩)
        · revert c3; cases b6 needed p <;> simp
        · revert c3; cases mB ml p <;> simp
    · exact absurd ((nI_ltI (b := 42) (by omega) (by decide)).2 (by omega)) c
theorem s_hasMays {ro : ab_E} {d : Nat} {mi : cM1} {ml : cM2} (row needed : Int64) : cS ro (d + 1) 56 [.ref 9, .long row, .long needed] mi ml (some (.int (pI (hM ml (b6 row) (b6 needed))))) mi ml := by
  refine ab_sem_of rfl rfl (vc_X6_hasMays_0 row needed mi ml ?_)
  refine w_has row needed _ _ (fun p hp => ?_) (fun p => ?_) 42 0 rfl (fun q hq => absurd hq (Nat.not_lt_zero q))
  · rw [b6_and, b6_and, b6_not _ hp]; rfl
  · rw [b6_and]; rfl
/-- two laws mean the same -/
def mS (ml : cM2) (P N : Nat → Bool) : Prop := oA ml P = oA ml N ∧ oB ml P = oB ml N ∧ hM ml P N ∧ hM ml N P
theorem op_hM (ml : cM2) (a b : Int64) : hM (op ml a b) = hM ml := by
  funext P N
  unfold hM
  rw [op_mB, op_10, op_11]
theorem op_mS (ml : cM2) (a b : Int64) : mS (op ml a b) = mS ml := by
  funext P N
  unfold mS
  rw [op_oA, op_oB, op_hM]
theorem s_meanSame {ro : ab_E} {d : Nat} {mi : cM1} {ml : cM2} (one other : Int64) : cS ro (d + 3) 55 [.ref 9, .long one, .long other] mi ml (some (.int (pI (mS ml (b6 one) (b6 other))))) mi (op ml (oA ml (b6 other)) (oB ml (b6 other))) := by
  refine ab_sem_of rfl rfl (vc_X6_meanSame_0 one other mi ml ⟨_, _, s_open one, _, _, s_open other, ?_⟩)
  rw [op_94, op_95, op_op, op_94, op_95, op_oA, op_oB, lc_eq, lc_eq]
  refine ⟨fun c1 => ⟨fun c2 => ⟨_, _, _, s_hasMays one other, ?_⟩, fun c2 => ⟨?_, rfl⟩⟩, fun c1 => ⟨?_, rfl⟩⟩
  · rw [op_hM, pI_e0]
    refine ⟨fun c3 => ⟨?_, rfl⟩, fun c3 => ⟨_, _, _, s_hasMays other one, ?_⟩⟩
    · rw [pI_0]; exact fun h => c3 h.2.2.1
    · rw [op_hM, pI_e0]
      refine ⟨fun c4 => ⟨?_, rfl⟩, fun c4 => ⟨?_, rfl⟩⟩
      · rw [pI_0]; exact fun h => c4 h.2.2.2
      · rw [pI_1]; exact ⟨c1, c2, Classical.not_not.1 c3, Classical.not_not.1 c4⟩
  · rw [pI_0]; exact fun h => c2 h.2.1
  · rw [pI_0]; exact fun h => c1 h.1
theorem s_alike {ro : ab_E} {d : Nat} {mi : cM1} {ml : cM2} {p q : Nat} (hp : p < 42) (hq : q < 42) : cS ro (d + 2) 57 [.ref 9, .int (nI p), .int (nI q)] mi ml (some (.int (pI (mB ml p = mB ml q ∧ ml 10 p = ml 10 q ∧ ml 11 p = ml 11 q)))) mi ml := by
  refine ab_sem_of rfl rfl (vc_X6_alike_0 (nI p) (nI q) mi ml ⟨_, _, _, s_isMay (by omega), _, _, _, s_isMay (by omega), ?_⟩)
  rw [nI_clamp (by omega), nI_clamp (by omega), lc_eq, lc_eq]
  have e : (bI (mB ml p) = bI (mB ml q)) = (mB ml p = mB ml q) := by apply propext; cases mB ml p <;> cases mB ml q <;> decide
  rw [e]
  refine ⟨fun c1 => ⟨in_of hp (by decide), in_of hq (by decide), fun c2 => ⟨in_of hp (by decide), in_of hq (by decide), fun c3 => ⟨?_, rfl⟩, fun c3 => ⟨?_, rfl⟩⟩, fun c2 => ⟨?_, rfl⟩⟩, fun c1 => ⟨?_, rfl⟩⟩
  · rw [pI_1]; exact ⟨c1, c2, c3⟩
  · rw [pI_0]; exact fun h => c3 h.2.2
  · rw [pI_0]; exact fun h => c2 h.2.1
  · rw [pI_0]; exact fun h => c1 h.1
