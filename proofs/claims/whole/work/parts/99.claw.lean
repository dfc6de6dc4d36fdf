/-! Laws: what follows the reading. -/
section LA
variable {ro : ab_E} {L : Nat} {xs : Nat → Int32} {d : Nat} {mi mi' m1 m2 : cM1} {ml ml' l1 l2 : cM2} {T : tSt} {z z1 : Nat × Nat}
def PT (k : Nat) (lo hi : Int64) (b : Bool) (ml ml' : cM2) : Prop := (ml' 10 k = lo ∧ ml' 11 k = hi ∧ mB ml' k = b) ∧ (∀ p, ¬ p = k → ml' 10 p = ml 10 p ∧ ml' 11 p = ml 11 p ∧ mB ml' p = mB ml p) ∧ (∀ a j, ¬ a = 10 → ¬ a = 11 → ¬ (a = 9 ∧ j = 2) → ml' a j = ml a j)
theorem PT_of {k : Nat} (lo hi v : Int64) (b : Bool) (hv : ∀ p, b6 v p = if p = k then b else mB ml p) : PT k lo hi b ml (ab_ul (ab_ul (ab_ul ml 10 k lo) 11 k hi) 9 2 v) := by
  have e9 : ∀ p, mB (ab_ul (ab_ul (ab_ul ml 10 k lo) 11 k hi) 9 2 v) p = b6 v p := fun p => by unfold mB; simp [ul_app]
  refine ⟨⟨by simp [ul_app], by simp [ul_app], by rw [e9, hv, if_pos rfl]⟩, fun p hp => ⟨by simp [ul_app, hp], by simp [ul_app, hp], by rw [e9, hv, if_neg hp]⟩, fun a j h1 h2 h3 => ?_⟩
  rw [ul_app]
  by_cases e : a = 9
  · rw [if_pos e, if_neg (by omega), ul_app, if_neg (by omega), ul_app, if_neg (by omega)]
  · rw [if_neg e, ul_app, if_neg h2, ul_app, if_neg h1]
theorem s_put {k : Nat} (hk : k < 42) (lo hi : Int64) (b : Bool) : ∃ ml', cS ro (d + 1) 46 [.ref 9, .int (nI k), .long lo, .long hi, .int (bI b)] mi ml none mi ml' ∧ PT k lo hi b ml ml' := by
  have key : ∃ mi' ml', cS ro (d + 1) 46 [.ref 9, .int (nI k), .long lo, .long hi, .int (bI b)] mi ml none mi' ml' ∧ (mi' = mi ∧ PT k lo hi b ml ml') := by
    refine ab_ex_q rfl rfl (fun Q hQ => vc_X6_put_0 _ _ _ _ mi ml ?_)
    rw [xl_0 (by omega), xl_42 (by omega), nI_clamp (by omega), bI_0]
    refine ⟨fun q => q.elim, fun _ => ⟨fun _ => ⟨in_of hk (by decide), in_of hk (by decide), fun c => hQ _ _ ⟨rfl, PT_of lo hi _ b (fun p => ?_)⟩, fun c => hQ _ _ ⟨rfl, PT_of lo hi _ b (fun p => ?_)⟩⟩, fun q => absurd hk q⟩⟩
    · by_cases hp : p < 64
      · rw [b6_and, b6_not _ hp, b6_bit (by omega)]
        by_cases e : p = k
        · rw [if_pos e, decide_eq_true e, c]; simp
        · rw [if_neg e, decide_eq_false e]; unfold mB; simp
      · rw [b6_ge _ (by omega), if_neg (by omega)]; unfold mB; rw [b6_ge _ (by omega)]
    · have c : b = true := by cases b with
        | true => rfl
        | false => exact absurd rfl c
      rw [b6_orbit _ (by omega)]
      by_cases e : p = k
      · rw [if_pos e, decide_eq_true e, c]; simp
      · rw [if_neg e, decide_eq_false e, Bool.or_false]; rfl
  obtain ⟨mi', ml', h1, rfl, h2⟩ := key
  exact ⟨ml', h1, h2⟩
theorem s_enact {f : Nat → Bool × Int64 × Int64} {n : Nat} (hn : n ≤ 12) (e10 : mi 5 10 = nI n) (hr : rows f n mi ml) : ∃ ml', cS ro (d + 2) 47 [.ref 9, .ref 5] mi ml none (ab_ui mi 9 3 (nI n)) ml' ∧ (∀ j, j < n → ml' 10 j = (f j).2.1 ∧ ml' 11 j = (f j).2.2 ∧ mB ml' j = (f j).1) ∧ (∀ a j, ¬ a = 10 → ¬ a = 11 → ¬ (a = 9 ∧ j = 2) → ml' a j = ml a j) := by
  have key : ∃ mi' ml', cS ro (d + 2) 47 [.ref 9, .ref 5] mi ml none mi' ml' ∧ (mi' = ab_ui mi 9 3 (nI n) ∧ (∀ j, j < n → ml' 10 j = (f j).2.1 ∧ ml' 11 j = (f j).2.2 ∧ mB ml' j = (f j).1) ∧ (∀ a j, ¬ a = 10 → ¬ a = 11 → ¬ (a = 9 ∧ j = 2) → ml' a j = ml a j)) := by
    refine ab_ex_q rfl rfl (fun Q hQ => vc_X6_enact_0 mi ml ?_)
    rw [e10]
    refine up0 (n := n) (F := fun i => ∀ l1, (∀ j, j < i → l1 10 j = (f j).2.1 ∧ l1 11 j = (f j).2.2 ∧ mB l1 j = (f j).1) → (∀ a j, ¬ a = 10 → ¬ a = 11 → ¬ (a = 9 ∧ j = 2) → l1 a j = ml a j) → W_X6_enact_10 (cs ro (d + 1)) ro Q (nI i) (ab_ui mi 9 3 (nI n)) l1) (fun i hi ih l1 h1 h2 => ?_) (fun l1 h1 h2 => ?_) ml (fun j hj => absurd hj (Nat.not_lt_zero j)) (fun _ _ _ _ _ => rfl)
    · refine vc_X6_enact_10 _ _ l1 ?_
      have e93 : ab_ui mi 9 3 (nI n) 9 3 = nI n := by simp [ui_app]
      have e8 : ab_ui mi 9 3 (nI n) 8 i = bI (f i).1 := by simp [ui_app]; exact (hr i hi).1
      have e6 : l1 6 i = (f i).2.1 := (h2 6 i (by decide) (by decide) (by omega)).trans (hr i hi).2.1
      have e7 : l1 7 i = (f i).2.2 := (h2 7 i (by decide) (by decide) (by omega)).trans (hr i hi).2.2
      have e1 : nI i + 1 = nI (i + 1) := nI_1 i
      rw [e93, nI_clamp (by omega), e8, e6, e7, e1, nI_ltI (by omega) (by omega), xl_12 (by omega)]
      have in12 : vp_in (nI i) 12 := in_of (by omega) (by decide)
      obtain ⟨l2, s2, P⟩ := s_put (ro := ro) (d := d) (mi := ab_ui mi 9 3 (nI n)) (ml := l1) (k := i) (by omega) (f i).2.1 (f i).2.2 (f i).1
      refine ⟨fun _ => ⟨fun _ => ⟨in12, in12, in12, _, l2, s2, ih l2 (fun j hj => ?_) (fun a j q1 q2 q3 => (P.2.2 a j q1 q2 q3).trans (h2 a j q1 q2 q3))⟩, fun q => absurd (by omega) q⟩, fun q => absurd hi q⟩
      by_cases e : j = i
      · rw [e]; exact P.1
      · have := P.2.1 j e
        rw [this.1, this.2.1, this.2.2]; exact h1 j (by omega)
    · refine vc_X6_enact_10 _ _ l1 ?_
      have e93 : ab_ui mi 9 3 (nI n) 9 3 = nI n := by simp [ui_app]
      rw [e93, nI_ltI (by omega) (by omega)]
      exact ⟨fun q => absurd q (by omega), fun _ => hQ _ _ ⟨rfl, h1, h2⟩⟩
  obtain ⟨mi', ml', h1, rfl, h2⟩ := key
  exact ⟨ml', h1, h2⟩
theorem s_forget : ∃ mi', cS ro (d + 1) 1 [.ref 36] mi ml none mi' ml ∧ (∀ h, h < 7 → mi' 37 h = 0) ∧ ∀ k j, ¬ k = 37 → mi' k j = mi k j := by
  have key : ∃ mi' ml', cS ro (d + 1) 1 [.ref 36] mi ml none mi' ml' ∧ (ml' = ml ∧ (∀ h, h < 7 → mi' 37 h = 0) ∧ ∀ k j, ¬ k = 37 → mi' k j = mi k j) := by
    refine ab_ex_q rfl rfl (fun Q hQ => vc_X0_forget_0 mi ml ?_)
    refine up0 (n := 7) (F := fun i => ∀ m1, (∀ h, h < i → m1 37 h = 0) → (∀ k j, ¬ k = 37 → m1 k j = mi k j) → W_X0_forget_2 (cs ro d) ro Q (nI i) m1 ml) (fun i hi ih m1 h1 h2 => ?_) (fun m1 h1 h2 => ?_) mi (fun h hh => absurd hh (Nat.not_lt_zero h)) (fun _ _ _ => rfl)
    · refine vc_X0_forget_2 _ m1 ml ?_
      have e1 : nI i + 1 = nI (i + 1) := nI_1 i
      rw [xl_7 (by omega), nI_clamp (by omega), e1]
      refine ⟨fun _ => ⟨in_of hi (by decide), ih _ (fun h hh => ?_) (fun k j hk => by rw [ui_app, if_neg hk]; exact h2 k j hk)⟩, fun q => absurd hi q⟩
      rw [ui_app, if_pos rfl]
      by_cases e : h = i
      · rw [if_pos e]
      · rw [if_neg e]; exact h1 h (by omega)
    · refine vc_X0_forget_2 _ m1 ml ?_
      rw [xl_7 (by omega)]
      exact ⟨fun q => absurd q (by omega), fun _ => hQ _ _ ⟨rfl, h1, h2⟩⟩
  obtain ⟨mi', ml', h1, rfl, h2⟩ := key
  exact ⟨mi', h1, h2⟩
end LA
