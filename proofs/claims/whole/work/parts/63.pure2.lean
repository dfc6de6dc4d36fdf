/-! The places that the reference lays are the law's; leaders ask for different things. -/
def uqK (ti : cM1) (K : Nat → Prop) : Prop := ∀ v w p, v < nW ti → w < nW ti → K v → K w → cutP ti v p → cutP ti w p → v = w
section P2
variable {ti : cM1} {tl : cM2} {K : Nat → Prop}
theorem cut_t (O : okT ti) {w l : Nat} (hw : w < nW ti) (hl : l < nL ti) (hk : ti 13 w = 0 ∨ ti 13 w = 2) : cutP ti w l ↔ ti 14 w = nI l := by
  have hL := O.L2
  obtain ⟨_, ht, _⟩ := O.w w hw
  rcases ht with ⟨h3, _⟩ | ⟨_, m, hm, ht⟩
  · rcases hk with c | c <;> rw [h3] at c <;> exact absurd c (by decide)
  · unfold cutP
    rw [ht, nI_clamp (by omega), nI_eq (by omega) (by omega)]
    exact ⟨fun h => h.2.symm, fun h => ⟨hk, h.symm⟩⟩
theorem bpl_mem (O : okT ti) {l p : Nat} : p ∈ bpl ti K l ↔ (¬ ∃ w, w < nW ti ∧ stP ti K l w) ∧ (((∀ w, w < nW ti → ¬ chP ti K l w) ∧ p = l) ∨ ∃ w, w < nW ti ∧ chP ti K l w ∧ (∀ v, v < w → ¬ chP ti K l v) ∧ p = 12 + w) := by
  have hW := O.W2
  unfold bpl
  rw [lif_mem]
  refine and_congr_right (fun _ => ?_)
  rcases fI_cases (chP ti K l) (n := nW ti) (by omega) with ⟨e, hno⟩ | ⟨i, q1, q2, q3, e⟩
  · rw [if_pos e]
    constructor
    · intro h; exact Or.inl ⟨hno, by simpa using h⟩
    · rintro (⟨_, h⟩ | ⟨w, h1, h2, _⟩)
      · simp [h]
      · exact absurd h2 (hno w h1)
  · rw [if_neg (by rw [e, xe_m1 (by omega)]; exact id), e, nI_clamp (by omega)]
    constructor
    · intro h; exact Or.inr ⟨i, q1, q2, q3, by simpa using h⟩
    · rintro (⟨h, _⟩ | ⟨w, h1, h2, h3, h4⟩)
      · exact absurd q2 (h i q1)
      · have : i = w := by
          rcases Nat.lt_trichotomy i w with a | a | a
          · exact absurd q2 (h3 i a)
          · exact a
          · exact absurd h2 (q3 w a)
        rw [h4, this]; simp
theorem mem_bp (O : okT ti) (hu : uqK ti K) : mem (bp ti K) = LK ti K := by
  have hW := O.W2
  have hL := O.L2
  funext p
  unfold mem LK
  apply pB_eq
  rw [decide_eq_true_iff, bp, List.mem_append, pre_mem, pre_mem]
  constructor
  · rintro (⟨l, hl, h⟩ | ⟨w, hw, h⟩)
    · obtain ⟨hst, h⟩ := (bpl_mem O).1 h
      rcases h with ⟨hno, h⟩ | ⟨w, h1, h2, h3, h4⟩
      · refine Or.inl ⟨by omega, ?_⟩
        rintro ⟨w, q1, q2, q3⟩
        rw [h] at q3
        have ht := (cut_t O q1 hl q3.1).1 q3
        rcases q3.1 with c | c
        · exact hst ⟨w, q1, q2, c, ht⟩
        · exact hno w q1 ⟨q2, c, ht⟩
      · exact Or.inr ⟨w, h1, h2.1, Or.inl h2.2.1, h4⟩
    · obtain ⟨h1, h2⟩ := lif_mem.1 h
      exact Or.inr ⟨w, hw, h1.1, Or.inr h1.2, by simpa using h2⟩
  · rintro (⟨hl, hno⟩ | ⟨w, hw, hK, hk, hp⟩)
    · refine Or.inl ⟨p, hl, (bpl_mem O).2 ⟨?_, Or.inl ⟨fun w hw h => ?_, rfl⟩⟩⟩
      · rintro ⟨w, hw, h⟩
        exact hno ⟨w, hw, h.1, (cut_t O hw hl (Or.inl h.2.1)).2 h.2.2⟩
      · exact hno ⟨w, hw, h.1, (cut_t O hw hl (Or.inr h.2.1)).2 h.2.2⟩
    · rcases hk with hk | hk
      · obtain ⟨_, ht, _⟩ := O.w w hw
        rcases ht with ⟨h3, _⟩ | ⟨_, l, hl, ht⟩
        · rw [h3] at hk; exact absurd hk (by decide)
        · have cw := (cut_t O hw hl (Or.inr hk)).2 ht
          refine Or.inl ⟨l, hl, (bpl_mem O).2 ⟨?_, Or.inr ⟨w, hw, ⟨hK, hk, ht⟩, fun v hv h => ?_, hp⟩⟩⟩
          · rintro ⟨v, hv, h⟩
            have := hu v w l hv hw h.1 hK ((cut_t O hv hl (Or.inl h.2.1)).2 h.2.2) cw
            rw [this] at h
            rw [h.2.1] at hk; exact absurd hk (by decide)
          · have := hu v w l (by omega) hw h.1 hK ((cut_t O (by omega) hl (Or.inr h.2.1)).2 h.2.2) cw
            omega
      · exact Or.inr ⟨w, hw, lif_mem.2 ⟨⟨hK, hk⟩, by simp [hp]⟩⟩
theorem uq_one (v : Nat) : uqK ti (fun x => x = v) := fun a b _ _ _ ha hb _ _ => ha.trans hb.symm
theorem uq_none {K : Nat → Prop} (h : ∀ w, ¬ K w) : uqK ti K := fun a _ _ _ _ ha _ _ _ => absurd ha (h a)
theorem nd1 {l : List Nat} (h : l.length ≤ 1) : l.Pairwise (fun a b => ¬ a = b) := by
  match l, h with
  | [], _ => exact List.Pairwise.nil
  | [a], _ => exact List.pairwise_singleton _ a
theorem nd_len : ∀ (l : List Nat) (n : Nat), l.Pairwise (fun a b => ¬ a = b) → (∀ x ∈ l, x < n) → l.length = pcn (mem l) n
  | [], n, _, _ => by
    have : mem [] = fun _ => false := by funext p; simp [mem]
    rw [this, pcn_false]; rfl
  | a :: l, n, hp, hx => by
    obtain ⟨h1, h2⟩ := List.pairwise_cons.1 hp
    have ih := nd_len l n h2 (fun x hx' => hx x (List.mem_cons_of_mem _ hx'))
    have ha : a < n := hx a (List.mem_cons_self ..)
    have hna : mem l a = false := by
      unfold mem
      simp only [decide_eq_false_iff_not]
      exact fun h => h1 a h rfl
    have key : ∀ m, pcn (mem (a :: l)) m = pcn (mem l) m + (if a < m then 1 else 0) := by
      intro m
      induction m with
      | zero => simp [pcn]
      | succ m ihm =>
        show pcn (mem (a :: l)) m + (mem (a :: l) m).toNat = pcn (mem l) m + (mem l m).toNat + _
        rw [ihm]
        by_cases e : m = a
        · have e1 : mem (a :: l) m = true := by unfold mem; simp [e]
          rw [e1, e, hna]
          simp
        · have e1 : mem (a :: l) m = mem l m := by unfold mem; simp [e]
          rw [e1]
          by_cases e2 : a < m
          · have : a < m + 1 := by omega
            simp [e2, this]; omega
          · have : ¬ a < m + 1 := by omega
            simp [e2, this]
    rw [key n, if_pos ha, ← ih]
    rfl
theorem bp_nd (O : okT ti) : (bp ti K).Pairwise (fun a b => ¬ a = b) := by
  have hW := O.W2
  have hL := O.L2
  unfold bp
  rw [List.pairwise_append]
  have one : ∀ l w, chP ti K l w → ∀ l', chP ti K l' w → l < 12 → l' < 12 → l = l' := fun l w h l' h' h1 h2 => by
    have := h.2.2.symm.trans h'.2.2
    exact (nI_eq (by omega) (by omega)).1 this
  refine ⟨?_, ?_, ?_⟩
  · unfold pre
    rw [List.pairwise_flatMap]
    refine ⟨fun l _ => nd1 (bpl_len ti K l), ?_⟩
    refine List.Pairwise.imp_of_mem (R := fun a b => a < b) (fun {a b} ha hb hab x hx y hy e => ?_) List.pairwise_lt_range
    have ha := List.mem_range.1 ha
    have hb := List.mem_range.1 hb
    rcases ((bpl_mem O).1 hx).2 with ⟨_, h1⟩ | ⟨w, hw, h1, _, h2⟩ <;> rcases ((bpl_mem O).1 hy).2 with ⟨_, g1⟩ | ⟨v, hv, g1, _, g2⟩
    · omega
    · omega
    · omega
    · have : w = v := by omega
      rw [← this] at g1
      have := one a w h1 b g1 (by omega) (by omega)
      omega
  · unfold pre
    rw [List.pairwise_flatMap]
    refine ⟨fun l _ => nd1 (adl_len ti K l), ?_⟩
    refine List.Pairwise.imp_of_mem (R := fun a b => a < b) (fun {a b} ha hb hab x hx y hy e => ?_) List.pairwise_lt_range
    have h1 : x = 12 + a := by simpa using (lif_mem.1 hx).2
    have h2 : y = 12 + b := by simpa using (lif_mem.1 hy).2
    omega
  · intro x hx y hy e
    obtain ⟨l, hl, hx⟩ := pre_mem.1 hx
    obtain ⟨v, hv, hy⟩ := pre_mem.1 hy
    obtain ⟨g1, g2⟩ := lif_mem.1 hy
    have g3 : y = 12 + v := by simpa using g2
    rcases ((bpl_mem O).1 hx).2 with ⟨_, h1⟩ | ⟨w, hw, h1, _, h2⟩
    · omega
    · have : w = v := by omega
      rw [← this] at g1
      have := g1.2
      rw [h1.2.1] at this
      exact absurd this (by decide)
theorem bp_cnt (O : okT ti) (hu : uqK ti K) : (bp ti K).length = pcn (LK ti K) 42 := by
  rw [nd_len _ 42 (bp_nd O) (bp_lt O), mem_bp O hu]
theorem LK_one (v p : Nat) (hv : v < nW ti) : LK ti (fun x => x = v) p = true ↔ (p < nL ti ∧ ¬ cutP ti v p) ∨ filP ti v p := by
  unfold LK
  rw [pB_iff]
  constructor
  · rintro (⟨h1, h2⟩ | ⟨w, h1, h2, h3⟩)
    · exact Or.inl ⟨h1, fun h => h2 ⟨v, hv, rfl, h⟩⟩
    · exact Or.inr (h2 ▸ h3)
  · rintro (⟨h1, h2⟩ | h)
    · exact Or.inl ⟨h1, fun ⟨w, _, e, h⟩ => h2 (e ▸ h)⟩
    · exact Or.inr ⟨v, hv, rfl, h⟩
/-- every place of P has its like in N -/
def lkP (tl : cM2) (P N : Nat → Bool) : Prop := ∀ p, P p = true → ∃ q, q < 42 ∧ N q = true ∧ alP tl p q
theorem lk_an {P N : Nat → Bool} (hP : ∀ p, P p = true → p < 42) (h1 : lkP tl P N) (h2 : lkP tl N P) : mS tl P N := by
  have an : ∀ {A B : Nat → Bool}, lkP tl A B → ∀ (f : Nat → Int64), (∀ p q, alP tl p q → f p = f q) → ∀ j, (∀ p, p < 42 → (B p && !mB tl p) = true → b6 (f p) j = true) → ∀ p, p < 42 → (A p && !mB tl p) = true → b6 (f p) j = true := by
    intro A B h f hf j hb p _ hA
    rw [Bool.and_eq_true] at hA
    obtain ⟨q, q1, q2, q3⟩ := h p hA.1
    rw [hf p q q3]
    exact hb q q1 (by rw [Bool.and_eq_true, ← q3.1]; exact ⟨q2, hA.2⟩)
  have f10 : ∀ p q, alP tl p q → tl 10 p = tl 10 q := fun p q h => h.2.1
  have f11 : ∀ p q, alP tl p q → tl 11 p = tl 11 q := fun p q h => h.2.2
  refine ⟨anL_congr (fun j _ => ⟨an h2 _ f10 j, an h1 _ f10 j⟩), anL_congr (fun j _ => ⟨an h2 _ f11 j, an h1 _ f11 j⟩), ?_, ?_⟩
  · intro p _ hN hm
    obtain ⟨q, q1, q2, q3⟩ := h2 p hN
    exact ⟨q, q1, q2, q3.1 ▸ hm, q3.2.1, q3.2.2⟩
  · intro p _ hN hm
    obtain ⟨q, q1, q2, q3⟩ := h1 p hN
    exact ⟨q, q1, q2, q3.1 ▸ hm, q3.2.1, q3.2.2⟩
theorem LK_lt (O : okT ti) {p : Nat} (h : LK ti K p = true) : p < 42 := by
  have hW := O.W2
  have hL := O.L2
  unfold LK at h
  rw [pB_iff] at h
  rcases h with ⟨h, _⟩ | ⟨w, h1, _, h3⟩
  · omega
  · have := h3.2; omega
theorem same_of (O : okT ti) {v w : Nat} (hv : v < nW ti) (hw : w < nW ti) (hk : ti 13 v = ti 13 w) (hk2 : ti 13 v = 0 ∨ ti 13 v = 2) (ht : ti 14 v = ti 14 w) (ha : ti 13 v = 2 → alP tl (12 + v) (12 + w)) : sameP ti tl v w := by
  have hW := O.W2
  have n1 : ¬ ti 13 v = 1 := by rcases hk2 with c | c <;> rw [c] <;> decide
  refine Or.inr ⟨n1, hk ▸ n1, ?_⟩
  have hc : ∀ p, cutP ti v p ↔ cutP ti w p := fun p => by unfold cutP; rw [hk, ht]
  have half : ∀ {a b : Nat}, a < nW ti → b < nW ti → (∀ p, cutP ti a p ↔ cutP ti b p) → ti 13 a = ti 13 b → (ti 13 a = 2 → alP tl (12 + a) (12 + b)) → (ti 13 a = 0 ∨ ti 13 a = 2) → lkP tl (LK ti (fun x => x = a)) (LK ti (fun x => x = b)) := by
    intro a b ha hb hc hk ha2 hk2 p hp
    have hp42 := LK_lt O hp
    rcases (LK_one a p ha).1 hp with ⟨h1, h2⟩ | ⟨h1, h2⟩
    · exact ⟨p, hp42, (LK_one b p hb).2 (Or.inl ⟨h1, fun h => h2 ((hc p).2 h)⟩), rfl, rfl, rfl⟩
    · have hk3 : ti 13 a = 2 := by
        rcases h1 with h1 | h1
        · exact h1
        · rcases hk2 with c | c <;> rw [c] at h1 <;> exact absurd h1 (by decide)
      refine ⟨12 + b, by omega, (LK_one b _ hb).2 (Or.inr ⟨Or.inl (hk ▸ hk3), rfl⟩), ?_⟩
      rw [h2]; exact ha2 hk3
  exact lk_an (fun p h => LK_lt O h) (half hv hw hc hk ha hk2) (half hw hv (fun p => (hc p).symm) hk.symm (fun h => alP_symm (ha (hk ▸ h))) (hk ▸ hk2))
theorem ldr_ns (ti : cM1) (tl : cM2) : ∀ n, (ldr ti tl n).Pairwise (fun v w => ¬ sameP ti tl v w)
  | 0 => List.Pairwise.nil
  | n + 1 => by
    rw [ldr_s]
    cases hc : pB (seenP ti n ∧ ∀ v ∈ ldr ti tl n, ¬ sameP ti tl v n) with
    | false => exact ldr_ns ti tl n
    | true =>
      show (ldr ti tl n ++ [n]).Pairwise _
      rw [List.pairwise_append]
      refine ⟨ldr_ns ti tl n, List.pairwise_singleton _ n, fun a ha b hb => ?_⟩
      have : b = n := by simpa using hb
      rw [this]
      exact (pB_iff.1 hc).2 a ha
theorem led_ns {g h : Nat} (hgh : g < h) (hh : h < nG ti tl) : ¬ sameP ti tl (led ti tl g) (led ti tl h) := by
  unfold led
  have hh' : h < (ldr ti tl (nW ti)).length := hh
  have hg' : g < (ldr ti tl (nW ti)).length := by omega
  rw [gD hg', gD hh']
  exact List.pairwise_iff_getElem.1 (ldr_ns ti tl (nW ti)) g h hg' hh' hgh
theorem uq_gK (O : okT ti) {S : Nat → Bool} (hn : ntS ti tl S) : uqK ti (gK ti tl S) := by
  rintro v w p hv hw ⟨g, hg, sg, rfl⟩ ⟨h, hh, sh, rfl⟩ cv cw
  by_cases e : g = h
  · rw [e]
  · exfalso
    have hL := O.L2
    have hp := cut_12 O hv cv
    have tv := (cut_t O hv hp cv.1).1 cv
    have tw := (cut_t O hw hp cw.1).1 cw
    have nt := hn g h hg hh sg sh
    have h1 : ¬ ti 14 (led ti tl g) = -1 := by rw [tv, xe_m1 (by omega)]; exact id
    have h2 : ti 14 (led ti tl g) = ti 14 (led ti tl h) := tv.trans tw.symm
    have hk : ti 13 (led ti tl g) = ti 13 (led ti tl h) := Classical.byContradiction (fun q => nt ⟨h1, h2, Or.inl q⟩)
    have ha : ti 13 (led ti tl g) = 2 → alP tl (12 + led ti tl g) (12 + led ti tl h) := fun q => Classical.byContradiction (fun q2 => nt ⟨h1, h2, Or.inr ⟨q, q2⟩⟩)
    rcases Nat.lt_or_gt_of_ne e with q | q
    · exact led_ns q hh (same_of O hv hw hk cv.1 h2 ha)
    · exact led_ns q hg (same_of O hw hv hk.symm (hk ▸ cv.1) h2.symm (fun q => alP_symm (ha (hk ▸ q))))
theorem nt_one (g : Nat) : ntS ti tl (fun i => decide (i = g)) := fun a b _ _ ha hb h => by
  have e1 : a = g := by simpa using ha
  have e2 : b = g := by simpa using hb
  rw [e1, e2] at h
  exact touP_irr ti tl _ h
theorem nt_sub {S S' : Nat → Bool} (h : ∀ i, S i = true → S' i = true) (hn : ntS ti tl S') : ntS ti tl S := fun a b ha hb sa sb => hn a b ha hb (h a sa) (h b sb)
theorem nt_two {g h : Nat} (hn : ¬ touP ti tl (led ti tl g) (led ti tl h)) : ntS ti tl (fun i => decide (i = g) || decide (i = h)) := fun a b _ _ ha hb q => by
  have ha' : a = g ∨ a = h := by simpa using ha
  have hb' : b = g ∨ b = h := by simpa using hb
  rcases ha' with e1 | e1 <;> rcases hb' with e2 | e2 <;> rw [e1, e2] at q
  · exact touP_irr ti tl _ q
  · exact hn q
  · exact hn (touP_symm q)
  · exact touP_irr ti tl _ q
end P2
