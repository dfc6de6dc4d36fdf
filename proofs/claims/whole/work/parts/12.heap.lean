/-! The memory as cells of the heap; what stands beside it (strings, static arrays, the script). -/
def ab_at (t : Nat) : FieldType := match t with
  | 0 => .int
  | 1 => .long
  | 2 => .boolean
  | _ => .byte
def ab_tys (cy : Nat → ClassId) : List (ClassId × FieldType) := [(cy 0, .int), (cy 1, .long), (cy 2, .boolean), (cy 3, .byte)]
def ab_fv (ty : FieldType) (aa : Nat → Nat) (mr : List (List (Option Nat))) (mi : Nat → Nat → Int32) (ml : Nat → Nat → Int64) (k j : Nat) : Value := match ty with
  | .long => .long (ml k j)
  | .object _ => va_rf (((mr.getD k []).getD j none).map aa)
  | .array _ => va_rf (((mr.getD k []).getD j none).map aa)
  | _ => .int (mi k j)
def ab_fs (aa : Nat → Nat) (g : ab_S) (k c : Nat) : List Value := (List.range (ab_fn c)).map (fun j => ab_fv (ab_fty c j) aa g.2.1 g.2.2.1 g.2.2.2 k j)
def ab_ar (g : ab_S) (k t n : Nat) : vp_A := (n, cond (Nat.beq t 1) (.inr (.inl (g.2.2.2 k))) (.inl (g.2.2.1 k)))
def ab_ce (cy : Nat → ClassId) (aa : Nat → Nat) (g : ab_S) (k : Nat) : ab_K → va_E
  | .inl (t, n) => .inl (cy t, ab_ar g k t n)
  | .inr c => .inr (c, ab_fs aa g k c)
def ab_ws (cy : Nat → ClassId) (aa : Nat → Nat) (g : ab_S) : va_W := g.1.mapIdx (fun k kd => (aa k, ab_ce cy aa g k kd))
theorem ab_ws_at {cy : Nat → ClassId} {aa : Nat → Nat} {g : ab_S} {k : Nat} {kd : ab_K} (h : g.1[k]? = some kd) : (ab_ws cy aa g)[k]? = some (aa k, ab_ce cy aa g k kd) := by
  unfold ab_ws
  rw [List.getElem?_mapIdx, h]
  rfl
theorem ab_ws_len {cy : Nat → ClassId} {aa : Nat → Nat} {g : ab_S} : (ab_ws cy aa g).length = g.1.length := by simp [ab_ws]
/-- memory that differs in one cell alone -/
theorem ab_ws_set {cy : Nat → ClassId} {aa : Nat → Nat} {g g' : ab_S} {k : Nat} {kd : ab_K} (h : g.1[k]? = some kd) (hs : g'.1 = g.1) (hr : ∀ q, q ≠ k → g'.2.1.getD q [] = g.2.1.getD q []) (hi : ∀ q, q ≠ k → g'.2.2.1 q = g.2.2.1 q) (hl : ∀ q, q ≠ k → g'.2.2.2 q = g.2.2.2 q) :
    ab_ws cy aa g' = (ab_ws cy aa g).set k (aa k, ab_ce cy aa g' k kd) := by
  apply List.ext_getElem?
  intro q
  rw [List.getElem?_set]
  by_cases e : k = q
  · subst e
    rw [if_pos rfl, if_pos (by rw [ab_ws_len]; exact (List.getElem?_eq_some_iff.mp h).1)]
    exact ab_ws_at (by rw [hs]; exact h)
  · rw [if_neg e]
    unfold ab_ws
    rw [List.getElem?_mapIdx, List.getElem?_mapIdx, hs]
    cases hq : g.1[q]? with
    | none => rfl
    | some kd2 =>
      have e2 : q ≠ k := fun x => e x.symm
      simp only [Option.map_some]
      congr 2
      cases kd2 with
      | inl x =>
        obtain ⟨t, n⟩ := x
        simp only [ab_ce, ab_ar, hi q e2, hl q e2]
      | inr c =>
        simp only [ab_ce, ab_fs]
        congr 2
        apply List.map_congr_left
        intro j _
        unfold ab_fv
        rw [hr q e2, hi q e2, hl q e2]
theorem ab_fs_at {aa : Nat → Nat} {g : ab_S} {k c j : Nat} (h : j < ab_fn c) : (ab_fs aa g k c)[j]? = some (ab_fv (ab_fty c j) aa g.2.1 g.2.2.1 g.2.2.2 k j) := by
  unfold ab_fs
  rw [List.getElem?_map, List.getElem?_range h]
  rfl
theorem ab_fs_len {aa : Nat → Nat} {g : ab_S} {k c : Nat} : (ab_fs aa g k c).length = ab_fn c := by simp [ab_fs]
theorem ab_fs_set {aa : Nat → Nat} {g g' : ab_S} {k c b : Nat} {v : Value} (hb : b < ab_fn c) (hv : ab_fv (ab_fty c b) aa g'.2.1 g'.2.2.1 g'.2.2.2 k b = v)
    (ho : ∀ j, j < ab_fn c → j ≠ b → ab_fv (ab_fty c j) aa g'.2.1 g'.2.2.1 g'.2.2.2 k j = ab_fv (ab_fty c j) aa g.2.1 g.2.2.1 g.2.2.2 k j) : ab_fs aa g' k c = (ab_fs aa g k c).set b v := by
  apply List.ext_getElem?
  intro j
  rw [List.getElem?_set]
  by_cases e : b = j
  · subst e
    rw [if_pos rfl, if_pos (by rw [ab_fs_len]; exact hb), ab_fs_at hb, hv]
  · rw [if_neg e]
    by_cases hj : j < ab_fn c
    · rw [ab_fs_at hj, ab_fs_at hj, ho j hj (fun q => e q.symm)]
    · rw [List.getElem?_eq_none (by rw [ab_fs_len]; omega), List.getElem?_eq_none (by rw [ab_fs_len]; omega)]
theorem ab_ui_ne {m : Nat → Nat → Int32} {k j q : Nat} {v : Int32} (h : q ≠ k) : ab_ui m k j v q = m q := by unfold ab_ui; rw [if_neg h]
theorem ab_ul_ne {m : Nat → Nat → Int64} {k j q : Nat} {v : Int64} (h : q ≠ k) : ab_ul m k j v q = m q := by unfold ab_ul; rw [if_neg h]
theorem ab_ui_eq {m : Nat → Nat → Int32} {k j : Nat} {v : Int32} : ab_ui m k j v k = upd (m k) j v := by unfold ab_ui; rw [if_pos rfl]
theorem ab_ul_eq {m : Nat → Nat → Int64} {k j : Nat} {v : Int64} : ab_ul m k j v k = vp_updL (m k) j v := by unfold ab_ul; rw [if_pos rfl]
/-- what nobody writes: arrays, strings, statics, and the words that aren't of the tables alone -/
def ab_Env (ro : ab_E) (aa : Nat → Nat) (zv : Value) (A : Nat → Prop) (U : State) (H : Heap) : Prop :=
  (∀ (k t n : Nat) (f : Nat → Value), ro k = some (t, n, f) → va_T (ab_at t) (aa k) n (fun j => ab_tr aa zv (f j)) A U H) ∧
  (∀ j : Nat, j < 15 → va_O "java/lang/String" (aa (ab_B + j)) A U H ∧ va_OF "java/lang/String" "coder" "B" (.int 0) (aa (ab_B + j)) A U H ∧ va_OF "java/lang/String" "value" "[B" (.ref (aa (ab_B + j + 100))) (aa (ab_B + j)) A U H) ∧
  (∀ q ∈ ab_ldcs, vk_R (ab_own q.1) q.2.1 q.2.2.1 (aa q.2.2.2) U) ∧
  (∀ q ∈ ab_stts, va_Z q.1 q.2.1 q.2.2.1 (ab_tr aa zv q.2.2.2) A U H) ∧
  (∀ q ∈ ab_nf, va_Nw (ab_nfw q) U) ∧ (∀ q ∈ ab_nm, va_Nw (ab_nmw q) U) ∧ zv.category = 1
theorem ab_nfw_warm {q : Nat × Nat × Nat} {s U : State} (hW : s.WarmedH U.vm) (h : va_Nw (ab_nfw q) s) : va_Nw (ab_nfw q) U := by
  unfold ab_nfw at h ⊢
  cases hq : ab_stts[q.2.2]? with
  | none =>
    rw [hq] at h
    exact va_Nw.warmF hW h
  | some x =>
    obtain ⟨C, n, d, v⟩ := x
    rw [hq] at h
    exact va_Nw.warmF hW h
theorem ab_Env.go {ro : ab_E} {aa : Nat → Nat} {zv : Value} {A A1 : Nat → Prop} {s U : State} {H : Heap} {locs : List Loc} (h : ab_Env ro aa zv A s s.heap) (hW : s.WarmedH U.vm) (hS : va_S A s.heap H locs) (hU : U.heap = H) (hA : ∀ q, A1 q → A q) : ab_Env ro aa zv A1 U U.heap := by
  obtain ⟨h1, h2, h3, h4, h5, h6, h7⟩ := h
  have hk : ∀ a : Nat, a < s.heap.size → ¬ A a → U.heap[a]? = s.heap[a]? := fun a ha hn => by rw [hU]; exact hS.2.1 a ha hn
  exact ⟨fun k t n f hr => ((h1 k t n f hr).kept hk).moved hW.alike |>.narrow hA, fun j hj => ⟨((h2 j hj).1.kept hk).moved hW.alike |>.narrow hA, ((h2 j hj).2.1.kept hk).moved hW.alike |>.narrow hA, ((h2 j hj).2.2.kept hk).moved hW.alike |>.narrow hA⟩,
    fun q hq => (h3 q hq).warm hW, fun q hq => ((h4 q hq).kept hk).moved hW.alike |>.narrow hA, fun q hq => ab_nfw_warm hW (h5 q hq), fun q hq => va_Nw.warmM hW (h6 q hq), h7⟩
theorem ab_Env.same {ro : ab_E} {aa : Nat → Nat} {zv : Value} {A : Nat → Prop} {s U : State} {H : Heap} (h : ab_Env ro aa zv A s H) (hv : U.vm = s.vm) : ab_Env ro aa zv A U H := by
  obtain ⟨h1, h2, h3, h4, h5, h6, h7⟩ := h
  have ha : s.vm.Alike U.vm := by rw [hv]; exact Vm.Alike.refl _
  exact ⟨fun k t n f hr => (h1 k t n f hr).moved ha, fun j hj => ⟨(h2 j hj).1.moved ha, (h2 j hj).2.1.moved ha, (h2 j hj).2.2.moved ha⟩,
    fun q hq => vk_R.same hv (h3 q hq), fun q hq => (h4 q hq).moved ha, fun q hq => va_Nw.same (by unfold ab_nfw; split <;> rfl) hv.symm (h5 q hq), fun q hq => va_Nw.same rfl hv.symm (h6 q hq), h7⟩
/-- the words that every method has -/
def ab_big : List Cond := lw_tbl.filter goodWord
theorem ab_big_of {w : Cond} (h : w ∈ lw_tbl) (hg : goodWord w = true) : w ∈ ab_big := List.mem_filter.mpr ⟨h, hg⟩
theorem ab_big_good {ws : List Cond} (h : ∀ w ∈ ws, w ∈ ab_big) : GoodIn ab_big ws := fun w hw => ⟨h w hw, good_of_word (List.mem_filter.mp (h w hw)).2⟩
theorem ab_tbl_good : GoodIn lw_tbl ab_big := fun w hw => ⟨(List.mem_filter.mp hw).1, good_of_word (List.mem_filter.mp hw).2⟩
