/-! A frame that knows more of its variables does what one does that knows less. -/
def ab_lr (a b : ab_L) : Prop := a.length = b.length ∧ ∀ (i : Nat) (v : Value), a[i]? = some (some v) → b[i]? = some (some v)
def ab_nr (x y : ab_N) : Prop := match x, y with
  | .inl (pc, ll, r), .inl (pc', ll', r') => pc = pc' ∧ ab_lr ll ll' ∧ r = r'
  | .inr (.inl x), .inr (.inl y) => x = y
  | .inr (.inr (c, as, pc, ll, r)), .inr (.inr (c', as', pc', ll', r')) => c = c' ∧ as = as' ∧ pc = pc' ∧ ab_lr ll ll' ∧ r = r'
  | _, _ => False
def ab_or (x y : Option (Prop × ab_N)) : Prop := ∀ P n, x = some (P, n) → ∃ n', y = some (P, n') ∧ ab_nr n n'
theorem ab_or_none {y : Option (Prop × ab_N)} : ab_or none y := fun _ _ h => by cases h
theorem ab_or_to {ll ll' : ab_L} (h : ab_lr ll ll') (P : Prop) (pc : Nat) (st : List Value) (c s : Nat) (g : ab_S) : ab_or (ab_pr P pc ll st c s g) (ab_pr P pc ll' st c s g) := fun _ _ e => by
  cases e
  exact ⟨_, rfl, rfl, h, rfl⟩
theorem ab_or_rt {P : Prop} {x : (Option Value × ab_S)} : ab_or (some (P, .inr (.inl x))) (some (P, .inr (.inl x))) := fun _ _ e => by
  cases e
  exact ⟨_, rfl, rfl⟩
theorem ab_or_ca {ll ll' : ab_L} (h : ab_lr ll ll') (a : Nat) (as : List Value) (pc : Nat) (r : List Value × Nat × Nat × ab_S) : ab_or (some (True, .inr (.inr (a, as, pc, ll, r)))) (some (True, .inr (.inr (a, as, pc, ll', r)))) := fun _ _ e => by
  cases e
  exact ⟨_, rfl, rfl, rfl, rfl, h, rfl⟩
theorem ab_or_cond {b : Bool} {x y : Option (Prop × ab_N)} (h : ab_or x y) : ab_or (cond b x none) (cond b y none) := by
  cases b
  · exact ab_or_none
  · exact h
theorem ab_lr_set {ll ll' : ab_L} (h : ab_lr ll ll') (i : Nat) (v : Option Value) : ab_lr (ll.set i v) (ll'.set i v) := by
  refine ⟨by simp [h.1], fun k w hk => ?_⟩
  rw [List.getElem?_set] at hk ⊢
  by_cases e : i = k
  · subst e
    rw [if_pos rfl] at hk ⊢
    rw [← h.1]
    exact hk
  · rw [if_neg e] at hk ⊢
    exact h.2 k w hk
theorem ab_lr_none {ll ll' : ab_L} (h : ab_lr ll ll') (i : Nat) : ab_lr (ll.set i none) ll' := by
  refine ⟨by simp [h.1], fun k w hk => ?_⟩
  rw [List.getElem?_set] at hk
  by_cases e : i = k
  · subst e
    rw [if_pos rfl] at hk
    split at hk <;> cases hk
  · rw [if_neg e] at hk
    exact h.2 k w hk
theorem ab_lr_k2 {ll ll' : ab_L} (h : ab_lr ll ll') (i : Nat) (v : Value) : ab_lr ((ab_k2 ll i).set i (some v)) ((ab_k2 ll' i).set i (some v)) := by
  refine ab_lr_set ?_ i (some v)
  cases i with
  | zero => exact h
  | succ j =>
    have e2 : ∀ l : ab_L, ab_k2 l (j + 1) = match l[j]? with
      | some (some v) => cond (Nat.beq v.category 2) (l.set j none) l
      | _ => l := fun l => rfl
    rw [e2, e2]
    cases h1 : ll[j]? with
    | none =>
      have : ll'[j]? = none := by
        rw [List.getElem?_eq_none_iff] at h1 ⊢
        rw [← h.1]; exact h1
      rw [this]
      exact h
    | some o =>
      cases o with
      | some x =>
        rw [h.2 j x h1]
        dsimp only
        cases Nat.beq x.category 2
        · exact h
        · exact ab_lr_set h j none
      | none =>
        dsimp only
        cases h2 : ll'[j]? with
        | none => exact h
        | some o =>
          cases o with
          | none => exact h
          | some x =>
            dsimp only
            cases Nat.beq x.category 2
            · exact h
            · refine ⟨by simp [h.1], fun k w hk => ?_⟩
              show (ll'.set j none)[k]? = some (some w)
              rw [List.getElem?_set]
              by_cases e : j = k
              · subst e
                rw [h1] at hk
                cases hk
              · rw [if_neg e]
                exact h.2 k w hk
set_option maxHeartbeats 4000000 in
theorem ab_step_drop {ro : ab_E} {mc ms : Nat} (en : ab_I) {ll ll' : ab_L} (h : ab_lr ll ll') (pc : Nat) (st : List Value) (c s : Nat) (g : ab_S) : ab_or (ab_step ro mc ms en (pc, ll, st, c, s, g)) (ab_step ro mc ms en (pc, ll', st, c, s, g)) := by
  obtain ⟨i, len, a, b, v, cs, z⟩ := en
  have hto : ∀ pc st c s g, ab_or (ab_to pc ll st c s g) (ab_to pc ll' st c s g) := fun pc st c s g => ab_or_to h True pc st c s g
  have hii : ∀ f pc, ab_or (ab_ii f pc ll st c s g) (ab_ii f pc ll' st c s g) := fun f pc => by
    unfold ab_ii; split <;> first | exact hto _ _ _ _ _ | exact ab_or_none
  have hjj : ∀ f pc, ab_or (ab_jj f pc ll st c s g) (ab_jj f pc ll' st c s g) := fun f pc => by
    unfold ab_jj; split <;> first | exact hto _ _ _ _ _ | exact ab_or_none
  have hji : ∀ f pc, ab_or (ab_ji f pc ll st c s g) (ab_ji f pc ll' st c s g) := fun f pc => by
    unfold ab_ji; split <;> first | exact hto _ _ _ _ _ | exact ab_or_none
  have hi1 : ∀ f pc, ab_or (ab_i1 f pc ll st c s g) (ab_i1 f pc ll' st c s g) := fun f pc => by
    unfold ab_i1; split <;> first | exact hto _ _ _ _ _ | exact ab_or_none
  have hj1 : ∀ f pc, ab_or (ab_j1 f pc ll st c s g) (ab_j1 f pc ll' st c s g) := fun f pc => by
    unfold ab_j1; split <;> first | exact hto _ _ _ _ _ | exact ab_or_none
  have hc1 : ∀ f, ab_or (ab_c1 f ll st c s g) (ab_c1 f ll' st c s g) := fun f => by
    unfold ab_c1; split <;> first | exact hto _ _ _ _ _ | exact ab_or_none
  have hc2 : ∀ f, ab_or (ab_c2 f ll st c s g) (ab_c2 f ll' st c s g) := fun f => by
    unfold ab_c2; split <;> first | exact hto _ _ _ _ _ | exact ab_or_none
  have hca : ∀ a b v cs pc, ab_or (ab_ca mc ms a b v cs pc ll st c s g) (ab_ca mc ms a b v cs pc ll' st c s g) := fun a b v cs pc => by
    unfold ab_ca
    refine ab_or_cond ?_
    split <;> (refine ab_or_cond ?_; exact ab_or_ca h _ _ _ _)
  have hldi : ∀ a pc, ab_or (ab_ldi a pc ll st c s g) (ab_ldi a pc ll' st c s g) := fun a pc => by
    unfold ab_ldi
    cases e : ll[a]? with
    | none => exact ab_or_none
    | some o => cases o with
      | none => exact ab_or_none
      | some x =>
        rw [h.2 a x e]
        cases x <;> first | exact hto _ _ _ _ _ | exact ab_or_none
  have hldj : ∀ a pc, ab_or (ab_ldj a pc ll st c s g) (ab_ldj a pc ll' st c s g) := fun a pc => by
    unfold ab_ldj
    cases e : ll[a]? with
    | none => exact ab_or_none
    | some o => cases o with
      | none => exact ab_or_none
      | some x =>
        rw [h.2 a x e]
        cases x <;> first | exact hto _ _ _ _ _ | exact ab_or_none
  have hlda : ∀ a pc, ab_or (ab_lda a pc ll st c s g) (ab_lda a pc ll' st c s g) := fun a pc => by
    unfold ab_lda
    cases e : ll[a]? with
    | none => exact ab_or_none
    | some o => cases o with
      | none => exact ab_or_none
      | some x =>
        rw [h.2 a x e]
        cases x <;> first | exact hto _ _ _ _ _ | exact ab_or_none
  have hs1 : ∀ a v pc st, ab_or (cond (Nat.blt a ll.length) (ab_to pc (ab_s1 ll a v) st c s g) none) (cond (Nat.blt a ll'.length) (ab_to pc (ab_s1 ll' a v) st c s g) none) := fun a v pc st => by
    rw [h.1]
    exact ab_or_cond (ab_or_to (ab_lr_k2 h a v) True _ _ _ _ _)
  have hsti : ∀ a pc, ab_or (ab_sti a pc ll st c s g) (ab_sti a pc ll' st c s g) := fun a pc => by
    unfold ab_sti; split <;> first | exact hs1 _ _ _ _ | exact ab_or_none
  have hsta : ∀ a pc, ab_or (ab_sta a pc ll st c s g) (ab_sta a pc ll' st c s g) := fun a pc => by
    unfold ab_sta; split <;> first | exact hs1 _ _ _ _ | exact ab_or_none
  have hstj : ∀ a pc, ab_or (ab_stj a pc ll st c s g) (ab_stj a pc ll' st c s g) := fun a pc => by
    unfold ab_stj; split
    · rw [h.1]
      exact ab_or_cond (ab_or_to (ab_lr_set (ab_lr_k2 h a _) (a + 1) none) True _ _ _ _ _)
    · exact ab_or_none
  have hinc : ∀ a v pc, ab_or (ab_inc a v pc ll st c s g) (ab_inc a v pc ll' st c s g) := fun a v pc => by
    unfold ab_inc
    cases e : ll[a]? with
    | none => exact ab_or_none
    | some o => cases o with
      | none => exact ab_or_none
      | some x =>
        rw [h.2 a x e]
        cases x <;> first | exact ab_or_none | (cases v <;> first | exact ab_or_none | exact hs1 _ _ _ _)
  have hald : ∀ t1 t2 pc, ab_or (ab_ald ro t1 t2 pc ll st c s g) (ab_ald ro t1 t2 pc ll' st c s g) := fun t1 t2 pc => by
    unfold ab_ald; (repeat' split) <;> first | exact ab_or_none | exact ab_or_to h _ _ _ _ _ _ | exact ab_or_rt | exact ab_or_ca h _ _ _ _ | (refine ab_or_cond ?_; first | exact ab_or_to h _ _ _ _ _ _ | exact ab_or_ca h _ _ _ _ | exact ab_or_rt)
  have hast : ∀ t1 t2 pc, ab_or (ab_ast t1 t2 pc ll st c s g) (ab_ast t1 t2 pc ll' st c s g) := fun t1 t2 pc => by
    unfold ab_ast; (repeat' split) <;> first | exact ab_or_none | exact ab_or_to h _ _ _ _ _ _ | exact ab_or_rt | exact ab_or_ca h _ _ _ _ | (refine ab_or_cond ?_; first | exact ab_or_to h _ _ _ _ _ _ | exact ab_or_ca h _ _ _ _ | exact ab_or_rt)
  have hlst : ∀ pc, ab_or (ab_lst pc ll st c s g) (ab_lst pc ll' st c s g) := fun pc => by
    unfold ab_lst; (repeat' split) <;> first | exact ab_or_none | exact ab_or_to h _ _ _ _ _ _ | exact ab_or_rt | exact ab_or_ca h _ _ _ _ | (refine ab_or_cond ?_; first | exact ab_or_to h _ _ _ _ _ _ | exact ab_or_ca h _ _ _ _ | exact ab_or_rt)
  have hlen : ∀ pc, ab_or (ab_len ro pc ll st c s g) (ab_len ro pc ll' st c s g) := fun pc => by
    unfold ab_len ab_to; (repeat' split) <;> first | exact ab_or_none | exact ab_or_to h _ _ _ _ _ _ | exact ab_or_rt | exact ab_or_ca h _ _ _ _ | (refine ab_or_cond ?_; first | exact ab_or_to h _ _ _ _ _ _ | exact ab_or_ca h _ _ _ _ | exact ab_or_rt)
  have hgf : ∀ a b v pc, ab_or (ab_gf a b v pc ll st c s g) (ab_gf a b v pc ll' st c s g) := fun a b v pc => by
    unfold ab_gf ab_to; (repeat' split) <;> first | exact ab_or_none | exact ab_or_to h _ _ _ _ _ _ | exact ab_or_rt | exact ab_or_ca h _ _ _ _ | (refine ab_or_cond ?_; first | exact ab_or_to h _ _ _ _ _ _ | exact ab_or_ca h _ _ _ _ | exact ab_or_rt)
  have hpf : ∀ a b v cs pc, ab_or (ab_pf a b v cs pc ll st c s g) (ab_pf a b v cs pc ll' st c s g) := fun a b v cs pc => by
    unfold ab_pf ab_to; (repeat' split) <;> first | exact ab_or_none | exact ab_or_to h _ _ _ _ _ _ | exact ab_or_rt | exact ab_or_ca h _ _ _ _ | (refine ab_or_cond ?_; first | exact ab_or_to h _ _ _ _ _ _ | exact ab_or_ca h _ _ _ _ | exact ab_or_rt)
  have hmi : ∀ pc, ab_or (ab_mi2 mc ms pc ll st c s g) (ab_mi2 mc ms pc ll' st c s g) := fun pc => by
    unfold ab_mi2 ab_to; (repeat' split) <;> first | exact ab_or_none | exact ab_or_to h _ _ _ _ _ _ | exact ab_or_rt | exact ab_or_ca h _ _ _ _ | (refine ab_or_cond ?_; first | exact ab_or_to h _ _ _ _ _ _ | exact ab_or_ca h _ _ _ _ | exact ab_or_rt)
  have hob : ∀ pc, ab_or (ab_ob pc ll st c s g) (ab_ob pc ll' st c s g) := fun pc => by
    unfold ab_ob ab_to; (repeat' split) <;> first | exact ab_or_none | exact ab_or_to h _ _ _ _ _ _ | exact ab_or_rt | exact ab_or_ca h _ _ _ _ | (refine ab_or_cond ?_; first | exact ab_or_to h _ _ _ _ _ _ | exact ab_or_ca h _ _ _ _ | exact ab_or_rt)
  have hdu : ∀ pc, ab_or (ab_du pc ll st c s g) (ab_du pc ll' st c s g) := fun pc => by
    unfold ab_du ab_to; (repeat' split) <;> first | exact ab_or_none | exact ab_or_to h _ _ _ _ _ _ | exact ab_or_rt | exact ab_or_ca h _ _ _ _ | (refine ab_or_cond ?_; first | exact ab_or_to h _ _ _ _ _ _ | exact ab_or_ca h _ _ _ _ | exact ab_or_rt)
  have hd2 : ∀ pc, ab_or (ab_d2 pc ll st c s g) (ab_d2 pc ll' st c s g) := fun pc => by
    unfold ab_d2 ab_to; (repeat' split) <;> first | exact ab_or_none | exact ab_or_to h _ _ _ _ _ _ | exact ab_or_rt | exact ab_or_ca h _ _ _ _ | (refine ab_or_cond ?_; first | exact ab_or_to h _ _ _ _ _ _ | exact ab_or_ca h _ _ _ _ | exact ab_or_rt)
  have hpo : ∀ pc, ab_or (ab_po pc ll st c s g) (ab_po pc ll' st c s g) := fun pc => by
    unfold ab_po ab_to; (repeat' split) <;> first | exact ab_or_none | exact ab_or_to h _ _ _ _ _ _ | exact ab_or_rt | exact ab_or_ca h _ _ _ _ | (refine ab_or_cond ?_; first | exact ab_or_to h _ _ _ _ _ _ | exact ab_or_ca h _ _ _ _ | exact ab_or_rt)
  have hnw : ∀ a b pc, ab_or (ab_nw mc ms a b pc ll st c s g) (ab_nw mc ms a b pc ll' st c s g) := fun a b pc => by
    unfold ab_nw ab_to; (repeat' split) <;> first | exact ab_or_none | exact ab_or_to h _ _ _ _ _ _ | exact ab_or_rt | exact ab_or_ca h _ _ _ _ | (refine ab_or_cond ?_; first | exact ab_or_to h _ _ _ _ _ _ | exact ab_or_ca h _ _ _ _ | exact ab_or_rt)
  have hna : ∀ a b pc, ab_or (ab_na mc ms a b pc ll st c s g) (ab_na mc ms a b pc ll' st c s g) := fun a b pc => by
    unfold ab_na; (repeat' split) <;> first | exact ab_or_none | exact ab_or_to h _ _ _ _ _ _ | exact ab_or_rt | exact ab_or_ca h _ _ _ _ | (refine ab_or_cond ?_; first | exact ab_or_to h _ _ _ _ _ _ | exact ab_or_ca h _ _ _ _ | exact ab_or_rt)
  have hdv : ∀ pc, ab_or (ab_dv pc ll st c s g) (ab_dv pc ll' st c s g) := fun pc => by
    unfold ab_dv; (repeat' split) <;> first | exact ab_or_none | exact ab_or_to h _ _ _ _ _ _ | exact ab_or_rt | exact ab_or_ca h _ _ _ _ | (refine ab_or_cond ?_; first | exact ab_or_to h _ _ _ _ _ _ | exact ab_or_ca h _ _ _ _ | exact ab_or_rt)
  have hcm : ∀ pc, ab_or (ab_cm pc ll st c s g) (ab_cm pc ll' st c s g) := fun pc => by
    unfold ab_cm ab_to; (repeat' split) <;> first | exact ab_or_none | exact ab_or_to h _ _ _ _ _ _ | exact ab_or_rt | exact ab_or_ca h _ _ _ _ | (refine ab_or_cond ?_; first | exact ab_or_to h _ _ _ _ _ _ | exact ab_or_ca h _ _ _ _ | exact ab_or_rt)
  have hrt : ∀ P v, ab_or (ab_rt mc ms P v c s g) (ab_rt mc ms P v c s g) := fun P v => by
    unfold ab_rt; exact ab_or_cond ab_or_rt
  have hri : ∀ b, ab_or (ab_ri mc ms b st c s g) (ab_ri mc ms b st c s g) := fun b => by
    unfold ab_ri; split <;> first | exact hrt _ _ | exact ab_or_none
  have hrj : ab_or (ab_rj mc ms st c s g) (ab_rj mc ms st c s g) := by
    unfold ab_rj; split <;> first | exact hrt _ _ | exact ab_or_none
  have hrv : ab_or (ab_rv mc ms st c s g) (ab_rv mc ms st c s g) := by
    unfold ab_rv; split <;> first | exact hrt _ _ | exact ab_or_none
  have his : ∀ a b v cs pc, ab_or (ab_is mc ms a b v cs pc ll st c s g) (ab_is mc ms a b v cs pc ll' st c s g) := fun a b v cs pc => by
    unfold ab_is; split <;> first | exact hmi _ | exact hca _ _ _ _ _
  have hip : ∀ a b v cs pc, ab_or (ab_ip mc ms a b v cs pc ll st c s g) (ab_ip mc ms a b v cs pc ll' st c s g) := fun a b v cs pc => by
    unfold ab_ip; split <;> first | exact hob _ | exact hca _ _ _ _ _
  cases i <;> first | exact ab_or_none | exact hto _ _ _ _ _ | exact hii _ _ | exact hjj _ _ | exact hji _ _ | exact hi1 _ _ | exact hj1 _ _ | exact hc1 _ | exact hc2 _ | exact hldi _ _ | exact hldj _ _ | exact hlda _ _ | exact hsti _ _ | exact hsta _ _ | exact hstj _ _ | exact hinc _ _ _ | exact hald _ _ _ | exact hast _ _ _ | exact hlst _ | exact hlen _ | exact hgf _ _ _ _ | exact hpf _ _ _ _ _ | exact hca _ _ _ _ _ | exact hdu _ | exact hd2 _ | exact hpo _ | exact hnw _ _ _ | exact hna _ _ _ | exact hdv _ | exact hcm _ | exact hri _ | exact hrj | exact hrv | exact his _ _ _ _ _ | exact hip _ _ _ _ _ | skip
  all_goals (rename_i k _; cases k <;> first | exact hc1 _ | exact hc2 _)
theorem ab_run_drop {call : Nat → List Value → ab_S → Option Value → ab_S → Prop} {ro : ab_E} {mc ms : Nat} {pg : Nat → Option ab_I} {Q : Option Value → ab_S → Prop} : ∀ (n pc : Nat) (ll ll' : ab_L) (st : List Value) (c s : Nat) (g : ab_S), ab_lr ll ll' → ab_run call ro mc ms pg (fun _ => false) Q (fun _ => False) n (pc, ll, st, c, s, g) → ab_run call ro mc ms pg (fun _ => false) Q (fun _ => False) n (pc, ll', st, c, s, g) := by
  intro n
  induction n with
  | zero => intro pc ll ll' st c s g _ h; exact h
  | succ n ih =>
    intro pc ll ll' st c s g hl h
    unfold ab_run at h ⊢
    dsimp only at h ⊢
    cases hpg : pg pc with
    | none => rw [hpg] at h; exact h.elim
    | some en =>
      rw [hpg] at h
      dsimp only at h ⊢
      cases hst : ab_step ro mc ms en (pc, ll, st, c, s, g) with
      | none => rw [hst] at h; exact h.elim
      | some x =>
        obtain ⟨P1, nx1⟩ := x
        obtain ⟨nx2, h2, h3⟩ := ab_step_drop en hl pc st c s g P1 nx1 hst
        rw [hst] at h
        rw [h2]
        rcases nx1 with ⟨pc1, l1, s1⟩ | ⟨r, g1⟩ | ⟨k, as, pc1, l1, s1⟩ <;> rcases nx2 with ⟨pc2, l2, s2⟩ | ⟨r2, g2⟩ | ⟨k2, as2, pc2, l2, s2⟩ <;> first | exact h3.elim | skip
        · obtain ⟨rfl, h4, rfl⟩ := h3
          exact ⟨h.1, ih _ _ _ _ _ _ _ h4 h.2⟩
        · cases h3
          exact h
        · obtain ⟨rfl, rfl, rfl, h4, rfl⟩ := h3
          obtain ⟨hp, r, g', hc, hr⟩ := h
          exact ⟨hp, r, g', hc, ih _ _ _ _ _ _ _ h4 hr⟩
theorem ab_drop {call : Nat → List Value → ab_S → Option Value → ab_S → Prop} {ro : ab_E} {mc ms : Nat} {pg : Nat → Option ab_I} {Q : Option Value → ab_S → Prop} {pc : Nat} {ll ll' : ab_L} {st : List Value} {c s : Nat} {g : ab_S} (h : ab_W call ro mc ms pg Q (pc, ll, st, c, s, g)) (hl : ab_lr ll ll') : ab_W call ro mc ms pg Q (pc, ll', st, c, s, g) := by
  obtain ⟨n, h⟩ := h
  exact ⟨n, ab_run_drop n pc ll ll' st c s g hl h⟩
theorem ab_lr0 : ab_lr [] [] := ⟨rfl, fun i v h => h⟩
theorem ab_lrc {a b : ab_L} (x : Option Value) (h : ab_lr a b) : ab_lr (x :: a) (x :: b) := ⟨congrArg (· + 1) h.1, fun i v hi => by
  cases i with
  | zero => exact hi
  | succ i => exact h.2 i v hi⟩
theorem ab_lrn {a b : ab_L} (x : Option Value) (h : ab_lr a b) : ab_lr (none :: a) (x :: b) := ⟨congrArg (· + 1) h.1, fun i v hi => by
  cases i with
  | zero => cases hi
  | succ i => exact h.2 i v hi⟩
