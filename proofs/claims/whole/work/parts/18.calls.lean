/-! Calls: a callee's contract over the whole world. -/
theorem ab_r_ca {P : Prop} {nx : ab_N} {mc ms a n pc : Nat} {v : Value} {cs : List (Int32 × Nat)} {ll : ab_L} {st : List Value} {c s : Nat} {g : ab_S} (h : ab_ca mc ms a n v cs pc ll st c s g = some (P, nx)) :
    ∃ (as rest : List Value) (kc ks : Nat), st = as.reverse ++ rest ∧ as.length = n ∧ (rest.map (fun v => v.category)).sum ≤ 8 ∧
      (∀ ci, v = .ref ci → ∃ k t, as = .ref k :: t ∧ g.1[k]? = some (.inr ci)) ∧ (v = .null → ∃ k t, as = .ref k :: t ∧ ab_B ≤ k ∧ k < ab_B + 15) ∧
      (∀ am : Nat × Nat, ab_amc cs am = true → am = (kc, ks)) ∧ c + kc ≤ mc ∧ s + ks ≤ ms ∧ nx = .inr (.inr (a, as, pc, ll, rest, c + kc, s + ks, g)) := by
  unfold ab_ca at h
  obtain ⟨h1, h2⟩ := ab_cond (y := none) h
  simp only [Bool.and_eq_true] at h1
  obtain ⟨⟨h3, h4⟩, h5⟩ := h1
  have h3 := Nat.le_of_ble_eq_true h3
  have h4 := Nat.le_of_ble_eq_true h4
  have hst : st = ((st.take n).reverse).reverse ++ st.drop n := by rw [List.reverse_reverse, List.take_append_drop]
  have hlen : ((st.take n).reverse).length = n := by simp; omega
  have hd : ∀ k, (st.take n).getLast? = some (.ref k) → ∃ t, (st.take n).reverse = .ref k :: t := by
    intro k hk
    rw [← List.head?_reverse] at hk
    cases hr : (st.take n).reverse with
    | nil => rw [hr] at hk; cases hk
    | cons x t =>
      rw [hr] at hk
      cases hk
      exact ⟨t, rfl⟩
  have hr1 : ∀ ci, v = .ref ci → ∃ k t, (st.take n).reverse = .ref k :: t ∧ g.1[k]? = some (.inr ci) := by
    intro ci hv
    subst hv
    dsimp only at h5
    split at h5
    · rename_i k hk
      obtain ⟨t, ht⟩ := hd k hk
      exact ⟨k, t, ht, ab_isO_ok h5⟩
    · cases h5
  have hr2 : v = .null → ∃ k t, (st.take n).reverse = .ref k :: t ∧ ab_B ≤ k ∧ k < ab_B + 15 := by
    intro hv
    subst hv
    dsimp only at h5
    split at h5
    · rename_i k hk
      obtain ⟨t, ht⟩ := hd k hk
      rw [Bool.and_eq_true] at h5
      exact ⟨k, t, ht, Nat.le_of_ble_eq_true h5.1, Nat.le_of_ble_eq_true h5.2⟩
    · cases h5
  split at h2
  · rename_i x kc y ks
    obtain ⟨h6, h7⟩ := ab_cond (y := none) h2
    cases h7
    rw [Bool.and_eq_true] at h6
    exact ⟨_, _, kc, ks, hst, hlen, h4, hr1, hr2, fun am q => of_decide_eq_true q, Nat.le_of_ble_eq_true h6.1, Nat.le_of_ble_eq_true h6.2, rfl⟩
  · rename_i hne
    obtain ⟨h6, h7⟩ := ab_cond (y := none) h2
    cases h7
    rw [Bool.and_eq_true] at h6
    refine ⟨_, _, 0, 0, hst, hlen, h4, hr1, hr2, fun am q => ?_, Nat.le_of_ble_eq_true h6.1, Nat.le_of_ble_eq_true h6.2, rfl⟩
    match cs, hne, q with
    | [], _, q => exact of_decide_eq_true q
    | [(_, _), (_, _)], hne, _ => exact (hne _ _ _ _ rfl).elim
    | [(_, _)], _, q => cases q
    | _ :: _ :: _ :: _, _, q => cases q
def ab_rm (d : Nat) (am : Nat × Nat) : Room := { frames := d + 1, cells := am.1, slots := am.2, locals := 40 * (d + 1) }
def ab_PU (D : va_G) (cy : Nat → ClassId) (aa : Nat → Nat) (zv : Value) (base : Nat) (ro : ab_E) (am : Nat × Nat) (g : ab_S) (sz : Nat) (U : State) : Prop :=
  U.heap.size = sz ∧ va_P D ab_cl (ab_ws cy aa g) U.heap ∧ va_K D ab_cl (ab_tys cy) U ∧ va_D (fun _ => True) (ab_ws cy aa g) ∧ ab_Env ro aa zv (va_A (ab_ws cy aa g) sz) U U.heap ∧ (0 < am.1 → sz = base + g.1.length)
def ab_QU (D : va_G) (cy : Nat → ClassId) (aa : Nat → Nat) (zv : Value) (g : ab_S) (sz : Nat) (r : Option Value) (g' : ab_S) : Array Value → State → Outcome → State → Prop := fun _ st oc t =>
  oc = .returned (r.map (ab_tr aa zv)) ∧ va_P D ab_cl (ab_ws cy aa g') t.heap ∧ va_D (va_A (ab_ws cy aa g) sz) (ab_ws cy aa g') ∧ va_F (va_A (ab_ws cy aa g) sz) st t ∧ t.heap.size + g.1.length = sz + g'.1.length
/-- the contract of method k: of these arguments, in this memory, it returns r and leaves g' -/
def ab_Ct (l : Launch) (D : va_G) (cy : Nat → ClassId) (aa : Nat → Nat) (zv : Value) (base : Nat) (ro : ab_E) (am : Nat → Nat × Nat) (d k : Nat) (as : List Value) (g : ab_S) (r : Option Value) (g' : ab_S) : Prop :=
  ∀ q, ab_ML[k]? = some q → q.2.2.1 ≤ 21 ∧ ∀ sz, Met l q.1 (Cond.code q.1 q.2.1 q.2.2.1 q.2.2.2.1 :: ab_big) (ab_rm d (am k)) (va_Pc (as.map (ab_tr aa zv)) (ab_PU D cy aa zv base ro (am k) g sz)) (ab_QU D cy aa zv g sz r g') (am k).1 (am k).2 (va_A (ab_ws cy aa g) sz)
theorem ab_blind {D : va_G} {cy : Nat → ClassId} {aa : Nat → Nat} {zv : Value} {base : Nat} {ro : ab_E} {am : Nat × Nat} {g : ab_S} {sz : Nat} {av : List Value} : FrameBlind (va_Pc av (ab_PU D cy aa zv base ro am g sz)) := by
  intro a U gf mk h
  obtain ⟨h0, h1, h2, h3, h4, h5, h6⟩ := h
  exact ⟨h0, h1, h2, va_K.moved (u := U) (U := U.calling gf mk a) (Vm.Alike.refl U.vm) h3, h4, ab_Env.same (s := U) (U := U.calling gf mk a) h5 rfl, h6⟩
section ABC
variable {p : Program} {l : Launch} {e : Env} {R : Room} {s : State} {m : MethodId} {args : Array Value} {below : List Frame} {meth : Method} {c : Code} {Q : State → Prop}
variable {ow : Nat} {ini : Bool} {cc : ByteArray} {rt : Option FieldType} {nL : Nat} {D : va_G} {cy : Nat → ClassId} {aa : Nat → Nat} {zv : Value} {base : Nat} {ro : ab_E} {A : Nat → Prop} {mc ms c0 s0 h0 n0 : Nat} {am : Nat → Nat × Nat}
theorem ab_Asub {g : ab_S} {H : Heap} {locs : List Loc} (hA : ∀ q, s.heap.size ≤ q → A q) (hD : va_D A (ab_ws cy aa g)) (hS : va_S A s.heap H locs) : ∀ q, va_A (ab_ws cy aa g) H.size q → A q := by
  intro q h
  rcases h with ⟨k, x, hk⟩ | h
  · exact hD.2 k (q, x) hk
  · exact hA q (Nat.le_trans hS.1 h)
/-- the callee's start, out of the caller's middle -/
theorem ab_pre (C0 : ab_Cx p R s m args meth c ow ini cc nL D cy aa zv base ro A mc ms c0 s0 h0 n0) {ll : ab_L} {g : ab_S} {H : Heap} {locs : List Loc} {ls : Array Slot} (hS : ab_St nL D cy aa zv h0 n0 A s ll g H locs ls) {a1 : Nat × Nat} (hm : 0 < a1.1 → 0 < mc) {U : State} (hU : U.heap = H) (hW : s.WarmedH U.vm) : ab_PU D cy aa zv base ro a1 g H.size U := by
  obtain ⟨hx, hb, hml, hown, hts, hK, hE, hA, hini, hfr, hlo, hce, hsl, haa, hbs⟩ := C0
  exact ⟨by rw [hU], by rw [hU]; exact hS.2.2.1, va_K.moved hW.alike hK, hS.2.2.2.1.weaken (fun _ _ _ _ => trivial), ab_Env.go hE hW hS.2.2.2.2.1 hU (ab_Asub hA hS.2.2.2.1 hS.2.2.2.2.1), fun q => by have := hS.2.2.2.2.2; have := hbs (hm q); omega⟩
/-- behind a call -/
theorem ab_post (C0 : ab_Cx p R s m args meth c ow ini cc nL D cy aa zv base ro A mc ms c0 s0 h0 n0) {ll : ab_L} {g g' : ab_S} {H : Heap} {locs : List Loc} {ls : Array Slot} (hS : ab_St nL D cy aa zv h0 n0 A s ll g H locs ls) {a1 : Nat × Nat} {r : Option Value}
    {pc : Nat} {st0 rest : List Value} {cells slots : Nat} {av : Array Value}
    (hr : va_Run p l e R s m args below meth c H locs cells slots a1.1 a1.2 (F0 m pc ls st0) rest (ab_QU D cy aa zv g H.size r g' av) (va_A (ab_ws cy aa g) H.size))
    (kk : ∀ (H' : Heap) (locs' : List Loc), ab_St nL D cy aa zv h0 n0 A s ll g' H' locs' ls → W p l e R s m args below meth c H' locs' (cells + a1.1) (slots + a1.2) Q (F0 m (pc + 3) ls ((r.map (ab_tr aa zv)).toList ++ rest))) : W p l e R s m args below meth c H locs cells slots Q (F0 m pc ls st0) := by
  obtain ⟨hx, hb, hml, hown, hts, hK, hE, hA, hini, hfr, hlo, hce, hsl, haa, hbs⟩ := C0
  have hAs := ab_Asub hA hS.2.2.2.1 hS.2.2.2.2.1
  intro T hT X
  obtain ⟨v, st₀, t, T', L, h0, X', hL, e1, e2, ⟨hv, h1, h2, ⟨hz, hk⟩, h4⟩, st⟩ := hr T hT X
  cases hv
  rw [h0] at hz hk
  have hS' := hS.2.2.2.2.1
  obtain ⟨t2, a2, b2⟩ := kk T'.heap (locs ++ L) ⟨hS.1, hS.2.1, by rw [e1]; exact h1, h2.weaken (fun _ q _ hq => hAs _ hq), ⟨Nat.le_trans hS'.1 (by rw [e1]; exact hz), fun q q1 q2 => by rw [e1, hk q (Nat.lt_of_lt_of_le q1 hS'.1) (fun z => q2 (hAs q z))]; exact hS'.2.1 q q1 q2, fun q hq => by
      rcases List.mem_append.mp hq with h | h
      · exact hS'.2.2 q h
      · exact hAs _ (hL q h)⟩, by rw [e1]; have := hS.2.2.2.2.2; omega⟩ T' rfl X'
  exact ⟨t2, st t2 a2, b2⟩
end ABC
