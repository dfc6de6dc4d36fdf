/-! From the abstract machine's memory to the JVM's heap. -/
def ab_tr (aa : Nat → Nat) (zv : Value) : Value → Value
  | .ref x => .ref (aa x)
  | .retAddr _ => zv
  | v => v
theorem ab_tr_cat {aa : Nat → Nat} {zv : Value} (hz : zv.category = 1) (v : Value) : (ab_tr aa zv v).category = v.category := by
  cases v <;> first | rfl | exact hz
theorem ab_tr_sum {aa : Nat → Nat} {zv : Value} (hz : zv.category = 1) (st : List Value) : ((st.map (ab_tr aa zv)).map (fun v => v.category)).sum = (st.map (fun v => v.category)).sum := by
  induction st with
  | nil => rfl
  | cons v t ih => simp only [List.map_cons, List.sum_cons, ab_tr_cat hz, ih]
/-- the variables -/
def ab_lh (aa : Nat → Nat) (zv : Value) (ls : Array Slot) (ll : ab_L) : Prop := ls.size = ll.length ∧ lv_wf ls ∧ ∀ (i : Nat) (v : Value), ll[i]? = some (some v) → ls[i]? = some (.val (ab_tr aa zv v))
def ab_lv (aa : Nat → Nat) (zv : Value) : Nat → ab_L → List (Nat × Value)
  | _, [] => []
  | i, none :: t => ab_lv aa zv (i + 1) t
  | i, some v :: t => (i, ab_tr aa zv v) :: ab_lv aa zv (i + 1) t
theorem ab_lv_mem {aa : Nat → Nat} {zv : Value} : ∀ (ll : ab_L) (i : Nat) (q : Nat × Value), q ∈ ab_lv aa zv i ll ↔ ∃ (j : Nat) (v : Value), ll[j]? = some (some v) ∧ q = (i + j, ab_tr aa zv v) := by
  intro ll
  induction ll with
  | nil => intro i q; simp [ab_lv]
  | cons o t ih =>
    intro i q
    cases o with
    | none =>
      rw [ab_lv, ih]
      constructor
      · rintro ⟨j, v, h, rfl⟩
        exact ⟨j + 1, v, by simpa using h, by rw [Nat.add_assoc, Nat.add_comm 1 j]⟩
      · rintro ⟨j, v, h, rfl⟩
        cases j with
        | zero => simp at h
        | succ j => exact ⟨j, v, by simpa using h, by rw [Nat.add_assoc, Nat.add_comm 1 j]⟩
    | some w =>
      rw [ab_lv, List.mem_cons, ih]
      constructor
      · rintro (rfl | ⟨j, v, h, rfl⟩)
        · exact ⟨0, w, rfl, rfl⟩
        · exact ⟨j + 1, v, by simpa using h, by rw [Nat.add_assoc, Nat.add_comm 1 j]⟩
      · rintro ⟨j, v, h, rfl⟩
        cases j with
        | zero =>
          simp at h
          subst h
          exact Or.inl rfl
        | succ j => exact Or.inr ⟨j, v, by simpa using h, by rw [Nat.add_assoc, Nat.add_comm 1 j]⟩
theorem ab_lh.has {aa : Nat → Nat} {zv : Value} {ls : Array Slot} {ll : ab_L} (h : ab_lh aa zv ls ll) : lv_has ls ll.length (ab_lv aa zv 0 ll) := by
  refine ⟨h.1, h.2.1, fun q hq => ?_⟩
  obtain ⟨j, v, hj, rfl⟩ := (ab_lv_mem ll 0 q).mp hq
  simpa using h.2.2 j v hj
def ab_k3 (ll : ab_L) (i : Nat) (o : Option (Option Value)) : ab_L := match o with
  | some (some v) => cond (Nat.beq v.category 2) (ll.set i none) ll
  | _ => ll
theorem ab_k2_s {ll : ab_L} {i : Nat} : ab_k2 ll (i + 1) = ab_k3 ll i ll[i]? := rfl
theorem ab_k2_at {ll : ab_L} {i j : Nat} {w : Value} (h : (ab_k2 ll i)[j]? = some (some w)) : ll[j]? = some (some w) ∧ ¬ (j + 1 = i ∧ w.category = 2) := by
  cases i with
  | zero => exact ⟨h, fun q => by omega⟩
  | succ i =>
    rw [ab_k2_s] at h
    cases hi : ll[i]? with
    | none =>
      rw [hi] at h
      have h' : ll[j]? = some (some w) := h
      refine ⟨h', fun q => ?_⟩
      have e : j = i := by omega
      subst e
      rw [hi] at h'
      cases h'
    | some o =>
      rw [hi] at h
      cases o with
      | none =>
        have h' : ll[j]? = some (some w) := h
        refine ⟨h', fun q => ?_⟩
        have e : j = i := by omega
        subst e
        rw [hi] at h'
        cases h'
      | some v =>
        unfold ab_k3 at h
        dsimp only at h
        by_cases hv : v.category = 2
        · rw [show Nat.beq v.category 2 = true from by rw [hv]; rfl] at h
          simp only [cond_true] at h
          rw [List.getElem?_set] at h
          split at h
          · split at h <;> cases h
          · rename_i hne
            exact ⟨h, fun q => hne (by omega)⟩
        · rw [show Nat.beq v.category 2 = false from by rw [Bool.eq_false_iff]; exact fun q => hv (Nat.eq_of_beq_eq_true q)] at h
          refine ⟨h, fun q => ?_⟩
          have e : j = i := by omega
          subst e
          have h2 : ll[j]? = some (some w) := h
          rw [hi] at h2
          cases h2
          exact hv q.2
theorem ab_k2_len {ll : ab_L} {i : Nat} : (ab_k2 ll i).length = ll.length := by
  cases i with
  | zero => rfl
  | succ i =>
    rw [ab_k2_s]
    unfold ab_k3
    split
    · cases Nat.beq _ 2 <;> simp
    · rfl
theorem ab_s1_len {ll : ab_L} {i : Nat} {v : Value} : (ab_s1 ll i v).length = ll.length := by simp [ab_s1, ab_k2_len]
theorem ab_s2_len {ll : ab_L} {i : Nat} {v : Value} : (ab_s2 ll i v).length = ll.length := by simp [ab_s2, ab_k2_len]
theorem ab_lh.st1 {aa : Nat → Nat} {zv : Value} {ls' : Array Slot} {ll : ab_L} {i : Nat} {v : Value} (hz : zv.category = 1)
    (h : lv_has ls' ll.length ((i, ab_tr aa zv v) :: (ab_lv aa zv 0 ll).filter (fun q => !(q.1 == i) && !(q.1 + 1 == i && q.2.category == 2)))) : ab_lh aa zv ls' (ab_s1 ll i v) := by
  refine ⟨h.1.trans ab_s1_len.symm, h.2.1, fun j w hj => ?_⟩
  unfold ab_s1 at hj
  rw [List.getElem?_set] at hj
  by_cases e : i = j
  · subst e
    rw [if_pos rfl] at hj
    split at hj
    · cases hj
      exact h.2.2 _ List.mem_cons_self
    · cases hj
  · rw [if_neg e] at hj
    obtain ⟨h1, h2⟩ := ab_k2_at hj
    refine h.2.2 (j, ab_tr aa zv w) (List.mem_cons_of_mem _ (List.mem_filter.mpr ⟨(ab_lv_mem ll 0 _).mpr ⟨j, w, h1, by rw [Nat.zero_add]⟩, ?_⟩))
    simp only [ab_tr_cat hz, Bool.and_eq_true, Bool.not_eq_true', beq_eq_false_iff_ne, Bool.and_eq_false_iff]
    refine ⟨fun q => e q.symm, ?_⟩
    by_cases q : j + 1 = i
    · exact Or.inr (fun q2 => h2 ⟨q, q2⟩)
    · exact Or.inl q
theorem ab_lh.st2 {aa : Nat → Nat} {zv : Value} {ls' : Array Slot} {ll : ab_L} {i : Nat} {v : Value} (hz : zv.category = 1)
    (h : lv_has ls' ll.length ((i, ab_tr aa zv v) :: (ab_lv aa zv 0 ll).filter (fun q => !(q.1 == i) && (!(q.1 == i + 1) && !(q.1 + 1 == i && q.2.category == 2))))) : ab_lh aa zv ls' (ab_s2 ll i v) := by
  refine ⟨h.1.trans ab_s2_len.symm, h.2.1, fun j w hj => ?_⟩
  unfold ab_s2 at hj
  rw [List.getElem?_set] at hj
  by_cases e2 : i + 1 = j
  · rw [if_pos e2] at hj
    split at hj <;> cases hj
  · rw [if_neg e2, List.getElem?_set] at hj
    by_cases e : i = j
    · subst e
      rw [if_pos rfl] at hj
      split at hj
      · cases hj
        exact h.2.2 _ List.mem_cons_self
      · cases hj
    · rw [if_neg e] at hj
      obtain ⟨h1, h2⟩ := ab_k2_at hj
      refine h.2.2 (j, ab_tr aa zv w) (List.mem_cons_of_mem _ (List.mem_filter.mpr ⟨(ab_lv_mem ll 0 _).mpr ⟨j, w, h1, by rw [Nat.zero_add]⟩, ?_⟩))
      simp only [ab_tr_cat hz, Bool.and_eq_true, Bool.not_eq_true', beq_eq_false_iff_ne, Bool.and_eq_false_iff]
      refine ⟨fun q => e q.symm, fun q => e2 q.symm, ?_⟩
      by_cases q : j + 1 = i
      · exact Or.inr (fun q2 => h2 ⟨q, q2⟩)
      · exact Or.inl q
/-- the variables at a method's entry -/
theorem ab_ea_mem {aa : Nat → Nat} {zv : Value} (hz : zv.category = 1) : ∀ (vs : List Value) (i j : Nat) (v : Value), (ab_ea vs)[j]? = some (some v) → (i + j, ab_tr aa zv v) ∈ lv_args i (vs.map (ab_tr aa zv)) := by
  intro vs
  induction vs with
  | nil => intro i j v h; simp [ab_ea] at h
  | cons w t ih =>
    intro i j v h
    rw [List.map_cons, lv_args, ab_tr_cat hz]
    unfold ab_ea at h
    by_cases hw : w.category = 2
    · rw [show Nat.beq w.category 2 = true from by rw [hw]; rfl, cond_true] at h
      rw [if_pos hw]
      match j, h with
      | 0, h =>
        simp at h
        subst h
        exact List.mem_cons_self
      | 1, h => simp at h
      | j + 2, h =>
        have h2 := ih (i + 2) j v (by simpa using h)
        rw [show i + (j + 2) = i + 2 + j by omega]
        exact List.mem_cons_of_mem _ h2
    · rw [show Nat.beq w.category 2 = false from by rw [Bool.eq_false_iff]; exact fun q => hw (Nat.eq_of_beq_eq_true q), cond_false] at h
      rw [if_neg hw]
      match j, h with
      | 0, h =>
        simp at h
        subst h
        exact List.mem_cons_self
      | j + 1, h =>
        have h2 := ih (i + 1) j v (by simpa using h)
        rw [show i + (j + 1) = i + 1 + j by omega]
        exact List.mem_cons_of_mem _ h2
theorem ab_ea_len {aa : Nat → Nat} {zv : Value} (hz : zv.category = 1) : ∀ (vs : List Value), (lg_sl (vs.map (ab_tr aa zv))).length = (ab_ea vs).length := by
  intro vs
  induction vs with
  | nil => rfl
  | cons w t ih =>
    unfold ab_ea
    have e : lg_sl (ab_tr aa zv w :: t.map (ab_tr aa zv)) = (if (ab_tr aa zv w).category = 2 then [Slot.val (ab_tr aa zv w), .second] else [.val (ab_tr aa zv w)]) ++ lg_sl (t.map (ab_tr aa zv)) := by simp [lg_sl]
    rw [List.map_cons, e, List.length_append, ih, ab_tr_cat hz]
    by_cases hw : w.category = 2
    · rw [if_pos hw, show Nat.beq w.category 2 = true from by rw [hw]; rfl, cond_true]
      simp only [List.length_cons, List.length_nil]
      omega
    · rw [if_neg hw, show Nat.beq w.category 2 = false from by rw [Bool.eq_false_iff]; exact fun q => hw (Nat.eq_of_beq_eq_true q), cond_false]
      simp only [List.length_cons, List.length_nil]
      omega
theorem ab_ent_lh {aa : Nat → Nat} {zv : Value} (hz : zv.category = 1) (vs : List Value) {n : Nat} (h : (ab_ea vs).length ≤ n) :
    ab_lh aa zv ((lg_sl (vs.map (ab_tr aa zv)) ++ List.replicate (n - (lg_sl (vs.map (ab_tr aa zv))).length) Slot.unset).toArray) (ab_ent n vs) := by
  have hl := lv_entry (vs.map (ab_tr aa zv)) (n := n) (by rw [ab_ea_len hz]; exact h)
  refine ⟨hl.1.trans (by unfold ab_ent; simp; omega), hl.2.1, fun j v hj => ?_⟩
  unfold ab_ent at hj
  have hj2 : (ab_ea vs)[j]? = some (some v) := by
    by_cases q : j < (ab_ea vs).length
    · rw [List.getElem?_append_left q] at hj
      exact hj
    · rw [List.getElem?_append_right (by omega), List.getElem?_replicate] at hj
      split at hj <;> cases hj
  have := hl.2.2 _ (ab_ea_mem (aa := aa) (zv := zv) hz vs 0 j v hj2)
  simpa using this
