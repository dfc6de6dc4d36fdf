theorem ab_tys_ok : ∀ a, a < 13 → ∀ j, j < ab_fn a → (ab_vty (.int 0) (ab_fty a j) = true ∨ ab_vty (.long 0) (ab_fty a j) = true ∨ ab_vty .null (ab_fty a j) = true) := by decide +kernel
section ABR
variable {p : Program} {l : Launch} {e : Env} {R : Room} {s : State} {m : MethodId} {args : Array Value} {below : List Frame} {meth : Method} {c : Code} {Q : State → Prop}
variable {ow : Nat} {ini : Bool} {cc : ByteArray} {rt : Option FieldType} {nL : Nat} {D : va_G} {cy : Nat → ClassId} {aa : Nat → Nat} {zv : Value} {base : Nat} {ro : ab_E} {A : Nat → Prop} {mc ms c0 s0 h0 n0 : Nat} {am : Nat → Nat × Nat}
/-- ints written into an array -/
theorem ab_asti (C0 : ab_Cx p R s m args meth c ow ini cc nL D cy aa zv base ro A mc ms c0 s0 h0 n0) {t n : Nat} (ht : t = 0 ∨ t = 2 ∨ t = 3) {pc : Nat} {ll : ab_L} {g : ab_S} {H : Heap} {locs : List Loc} {ls : Array Slot} (hS : ab_St nL D cy aa zv h0 n0 A s ll g H locs ls)
    {k : Nat} (hk : g.1[k]? = some (.inl (t, n))) {x i : Int32} (hin : vp_in i n) {cells slots : Nat} {rest : List Value} (hd : decode cc pc = .ok (if t = 0 then .iastore else .bastore, 1))
    (kk : ∀ (H' : Heap) (locs' : List Loc), ab_St nL D cy aa zv h0 n0 A s ll (g.1, g.2.1, ab_ui g.2.2.1 k i.toNatClampNeg (cond (Nat.beq t 0) x (cond (Nat.beq t 2) (vp_nar .boolean x) (vp_nar .byte x))), g.2.2.2) H' locs' ls → W p l e R s m args below meth c H' locs' cells slots Q (F0 m (pc + 1) ls rest)) : W p l e R s m args below meth c H locs cells slots Q (F0 m pc ls (.int x :: .int i :: .ref (aa k) :: rest)) := by
  obtain ⟨hx, hb, hml, hown, hts, hK, hE, hA, hini, hfr, hlo, hce, hsl, haa, hbs⟩ := C0
  have key : ∀ (y : Int32) (H1 : Heap), (cond (Nat.beq t 0) x (cond (Nat.beq t 2) (vp_nar .boolean x) (vp_nar .byte x))) = y → (Nat.beq t 1 = false) → H1[aa k]? = some (vp_cell (cy t) (n, .inl (upd (g.2.2.1 k) i.toNatClampNeg y))) → H1.size = H.size → (∀ q, q ≠ aa k → H1[q]? = H[q]?) → W p l e R s m args below meth c H1 (locs ++ [⟨aa k, i.toNatClampNeg⟩]) cells slots Q (F0 m (pc + 1) ls rest) := by
    intro y H1 hy h1 e1 z oq
    have he := ab_ws_at (cy := cy) (aa := aa) hk
    have hset : ab_ws cy aa (g.1, g.2.1, ab_ui g.2.2.1 k i.toNatClampNeg (cond (Nat.beq t 0) x (cond (Nat.beq t 2) (vp_nar .boolean x) (vp_nar .byte x))), g.2.2.2) = (ab_ws cy aa g).set k (aa k, .inl (cy t, n, .inl (upd (g.2.2.1 k) i.toNatClampNeg y))) := by
      rw [ab_ws_set (g' := (g.1, g.2.1, ab_ui g.2.2.1 k i.toNatClampNeg (cond (Nat.beq t 0) x (cond (Nat.beq t 2) (vp_nar .boolean x) (vp_nar .byte x))), g.2.2.2)) hk rfl (fun _ _ => rfl) (fun q hq => ab_ui_ne hq) (fun _ _ => rfl)]
      simp only [ab_ce, ab_ar, h1, cond_false, ab_ui_eq, hy]
    refine kk H1 _ ⟨hS.1, hS.2.1, ?_, ?_, hS.2.2.2.2.1.put z oq (hS.2.2.2.1.2 k _ he), by rw [z]; exact hS.2.2.2.2.2⟩
    · rw [hset]
      exact hS.2.2.1.set hS.2.2.2.1 he e1 oq
    · rw [hset]
      exact hS.2.2.2.1.set he
  have he := ab_ws_at (cy := cy) (aa := aa) hk
  rcases ht with rfl | rfl | rfl
  · refine W.iast hx hb (hS.2.2.1 k _ he) ((hK.2 0 _ (ab_tyat (by decide))).1 n (fun j => .int (g.2.2.1 k j))) (fun q => by cases q) (by show ¬ (i < 0 ∨ (arrV _ _ _).slots.size ≤ _); rw [arrV_size]; exact hin) rfl rfl hd fun H1 e1 z oq => ?_
    refine key x H1 rfl rfl ?_ z oq
    rw [e1]
    show some ((vp_cell (cy 0) (n, .inl (g.2.2.1 k))).setSlot _ _) = _
    rw [vp_cell_i, vp_cell_i, arrV_store]
    congr 2
    funext q
    by_cases hq : q = i.toNatClampNeg
    · subst hq
      simp [updV, upd]
    · simp [updV, upd, hq]
  · refine W.zast hx hb (hS.2.2.1 k _ he) ((hK.2 2 _ (ab_tyat (by decide))).1 n (fun j => .int (g.2.2.1 k j))) (fun q => by cases q) (by show ¬ (i < 0 ∨ (arrV _ _ _).slots.size ≤ _); rw [arrV_size]; exact hin) rfl rfl hd fun H1 e1 z oq => ?_
    refine key (vp_nar .boolean x) H1 rfl rfl ?_ z oq
    rw [e1]
    show some ((vp_cell (cy 2) (n, .inl (g.2.2.1 k))).setSlot _ _) = _
    rw [vp_cell_i, vp_cell_i, arrV_store]
    congr 2
    funext q
    by_cases hq : q = i.toNatClampNeg
    · subst hq
      simp [updV, upd, vp_nar]
      try rfl
    · simp [updV, upd, hq]
  · refine W.bast hx hb (hS.2.2.1 k _ he) ((hK.2 3 _ (ab_tyat (by decide))).1 n (fun j => .int (g.2.2.1 k j))) (fun q => by cases q) (by show ¬ (i < 0 ∨ (arrV _ _ _).slots.size ≤ _); rw [arrV_size]; exact hin) rfl rfl hd fun H1 e1 z oq => ?_
    refine key (vp_nar .byte x) H1 rfl rfl ?_ z oq
    rw [e1]
    show some ((vp_cell (cy 3) (n, .inl (g.2.2.1 k))).setSlot _ _) = _
    rw [vp_cell_i, vp_cell_i, arrV_store]
    congr 2
    funext q
    by_cases hq : q = i.toNatClampNeg
    · subst hq
      simp [updV, upd, vp_nar]
      try rfl
    · simp [updV, upd, hq]
theorem ab_astl (C0 : ab_Cx p R s m args meth c ow ini cc nL D cy aa zv base ro A mc ms c0 s0 h0 n0) {n : Nat} {pc : Nat} {ll : ab_L} {g : ab_S} {H : Heap} {locs : List Loc} {ls : Array Slot} (hS : ab_St nL D cy aa zv h0 n0 A s ll g H locs ls)
    {k : Nat} (hk : g.1[k]? = some (.inl (1, n))) {x : Int64} {i : Int32} (hin : vp_in i n) {cells slots : Nat} {rest : List Value} (hd : decode cc pc = .ok (.lastore, 1))
    (kk : ∀ (H' : Heap) (locs' : List Loc), ab_St nL D cy aa zv h0 n0 A s ll (g.1, g.2.1, g.2.2.1, ab_ul g.2.2.2 k i.toNatClampNeg x) H' locs' ls → W p l e R s m args below meth c H' locs' cells slots Q (F0 m (pc + 1) ls rest)) : W p l e R s m args below meth c H locs cells slots Q (F0 m pc ls (.long x :: .int i :: .ref (aa k) :: rest)) := by
  obtain ⟨hx, hb, hml, hown, hts, hK, hE, hA, hini, hfr, hlo, hce, hsl, haa, hbs⟩ := C0
  have he := ab_ws_at (cy := cy) (aa := aa) hk
  have hset : ab_ws cy aa (g.1, g.2.1, g.2.2.1, ab_ul g.2.2.2 k i.toNatClampNeg x) = (ab_ws cy aa g).set k (aa k, .inl (cy 1, n, .inr (.inl (vp_updL (g.2.2.2 k) i.toNatClampNeg x)))) := by
    rw [ab_ws_set (g' := (g.1, g.2.1, g.2.2.1, ab_ul g.2.2.2 k i.toNatClampNeg x)) hk rfl (fun _ _ => rfl) (fun _ _ => rfl) (fun q hq => ab_ul_ne hq)]
    simp only [ab_ce, ab_ar, ab_ul_eq]
    rfl
  refine W.last hx hb (hS.2.2.1 k _ he) ((hK.2 1 _ (ab_tyat (by decide))).1 n (fun j => .long (g.2.2.2 k j))) (fun q => by cases q) (by show ¬ (i < 0 ∨ (arrV _ _ _).slots.size ≤ _); rw [arrV_size]; exact hin) rfl rfl hd fun H1 e1 z oq => ?_
  refine kk H1 _ ⟨hS.1, hS.2.1, ?_, ?_, hS.2.2.2.2.1.put z oq (hS.2.2.2.1.2 k _ he), by rw [z]; exact hS.2.2.2.2.2⟩
  · rw [hset]
    refine hS.2.2.1.set hS.2.2.2.1 he ?_ oq
    show H1[aa k]? = some (vp_cell _ _)
    rw [e1]
    show some ((vp_cell (cy 1) (n, .inr (.inl (g.2.2.2 k)))).setSlot _ _) = _
    rw [vp_cell_l, vp_cell_l, arrV_store]
    congr 2
    funext q
    by_cases hq : q = i.toNatClampNeg
    · subst hq
      simp [updV, vp_updL]
    · simp [updV, vp_updL, hq]
  · rw [hset]
    exact hS.2.2.2.1.set he
/-- a cell more -/
theorem ab_ws_push {g : ab_S} {kd : ab_K} {row : List (Option Nat)} (hm : g.2.1.length = g.1.length) : ab_ws cy aa (g.1 ++ [kd], g.2.1 ++ [row], ab_zi g.2.2.1 g.1.length, ab_zl g.2.2.2 g.1.length) = ab_ws cy aa g ++ [(aa g.1.length, ab_ce cy aa (g.1 ++ [kd], g.2.1 ++ [row], ab_zi g.2.2.1 g.1.length, ab_zl g.2.2.2 g.1.length) g.1.length kd)] := by
  apply List.ext_getElem?
  intro q
  unfold ab_ws
  rw [List.getElem?_mapIdx]
  rcases Nat.lt_trichotomy q g.1.length with h | h | h
  · rw [List.getElem?_append_left h, List.getElem?_append_left (by simpa using h), List.getElem?_mapIdx]
    have e1 : q ≠ g.1.length := by omega
    cases hq : g.1[q]? with
    | none => rfl
    | some kd2 =>
      simp only [Option.map_some]
      congr 2
      cases kd2 with
      | inl x =>
        obtain ⟨t, n⟩ := x
        simp only [ab_ce, ab_ar, ab_zi, ab_zl, if_neg e1]
      | inr c =>
        simp only [ab_ce, ab_fs]
        congr 2
        apply List.map_congr_left
        intro j _
        have e2 : (g.2.1 ++ [row]).getD q [] = g.2.1.getD q [] := by
          rw [List.getD_eq_getElem?_getD, List.getD_eq_getElem?_getD, List.getElem?_append_left (by omega)]
        unfold ab_fv
        rw [e2]
        simp only [ab_zi, ab_zl, if_neg e1]
  · subst h
    rw [List.getElem?_append_right (Nat.le_refl _), List.getElem?_append_right (by simp)]
    simp
  · rw [List.getElem?_eq_none (by simp; omega), List.getElem?_eq_none (by simp; omega)]
    rfl
theorem ab_newc (C0 : ab_Cx p R s m args meth c ow ini cc nL D cy aa zv base ro A mc ms c0 s0 h0 n0) {idx a w : Nat} (hw : ab_CK[w]? = some (ow, idx, a)) (ha : a < 13) {pc : Nat} {ll : ab_L} {g : ab_S} {H : Heap} {locs : List Loc} {ls : Array Slot} (hS : ab_St nL D cy aa zv h0 n0 A s ll g H locs ls)
    {c1 s1 : Nat} (h1 : c1 + 1 ≤ mc) (h2 : s1 + ab_fn a ≤ ms) (h3 : g.1.length < 1000) (hm : g.2.1.length = g.1.length) {rest : List Value} (hd : decode cc pc = .ok (.new idx, 3))
    (kk : ∀ (H' : Heap) (locs' : List Loc), ab_St nL D cy aa zv h0 n0 A s ll (g.1 ++ [.inr a], g.2.1 ++ [List.replicate (ab_fn a) none], ab_zi g.2.2.1 g.1.length, ab_zl g.2.2.2 g.1.length) H' locs' ls → W p l e R s m args below meth c H' locs' (c0 + (c1 + 1)) (s0 + (s1 + ab_fn a)) Q (F0 m (pc + 3) ls (.ref (aa g.1.length) :: rest))) : W p l e R s m args below meth c H locs (c0 + c1) (s0 + s1) Q (F0 m pc ls rest) := by
  obtain ⟨hx, hb, hml, hown, hts, hK, hE, hA, hini, hfr, hlo, hce, hsl, haa, hbs⟩ := C0
  have hcP := ab_clP_ok a ha
  have hKn := hK.1 a _ (ab_clat ha)
  have hsz : H.size = aa g.1.length := by rw [haa _ h3]; have := hS.2.2.2.2.2; have := hbs (by omega); omega
  refine W.newcK hx hb hown (ab_w hts (ab_CK_ok _ (List.mem_of_getElem? hw)) rfl) (ab_w hts hcP.1 rfl) (ab_w hts hcP.2.1 rfl) rfl hd (by omega) (by omega) hKn.2.1 hsz fun H1 kC hkC e1 z1 o1 => ?_
  have hk : ∀ (k : Nat) (x : Nat × va_E), (ab_ws cy aa g)[k]? = some x → H1[x.1]? = H[x.1]? := fun k x hx => o1 x.1 (by rw [← hsz]; exact (hS.2.2.1 k x hx).lt)
  rw [Nat.add_assoc c0, Nat.add_assoc s0]
  refine kk H1 locs ⟨hS.1, hS.2.1, ?_, ?_, ⟨Nat.le_trans hS.2.2.2.2.1.1 (by omega), fun x q1 q2 => (o1 x (by rw [← hsz]; exact Nat.lt_of_lt_of_le q1 hS.2.2.2.2.1.1)).trans (hS.2.2.2.2.1.2.1 x q1 q2), hS.2.2.2.2.1.2.2⟩, by rw [z1, haa _ h3]; have := hbs (by omega); simp; omega⟩
  · rw [ab_ws_push hm]
    refine (hS.2.2.1.kept hk).app (fun k x hx => ?_)
    have hz : k < 1 := (List.getElem?_eq_some_iff.mp hx).1
    rw [show k = 0 by omega] at hx
    cases hx
    refine ⟨_, ab_clat ha, (u_born (ab_fty a) hts (ab_lays ha) hKn hkC e1 hcP.2.2.2.1).to fun j hj => ?_⟩
    unfold vp_V
    rw [List.getD_eq_getElem?_getD, ab_fs_at hj]
    have e2 : (g.2.1 ++ [List.replicate (ab_fn a) none]).getD g.1.length [] = List.replicate (ab_fn a) (none : Option Nat) := by
      rw [List.getD_eq_getElem?_getD, List.getElem?_append_right (by omega), hm]
      simp
    show defaultValue (ab_fty a j) = ab_fv (ab_fty a j) aa (g.2.1 ++ [List.replicate (ab_fn a) none]) (ab_zi g.2.2.1 g.1.length) (ab_zl g.2.2.2 g.1.length) g.1.length j
    unfold ab_fv
    rw [e2]
    have e3 : (List.replicate (ab_fn a) (none : Option Nat)).getD j none = none := by
      rw [List.getD_eq_getElem?_getD, List.getElem?_replicate]
      split <;> rfl
    rw [e3]
    have hty : ∀ ty : FieldType, (∃ d, parseFieldDescriptor d = some ty) → ty = ab_fty a j → (ab_vty (.int 0) ty = true ∨ ab_vty (.long 0) ty = true ∨ ab_vty .null ty = true) → defaultValue ty = (match ty with
      | .long => .long (ab_zl g.2.2.2 g.1.length g.1.length j)
      | .object _ => va_rf ((none : Option Nat).map aa)
      | .array _ => va_rf ((none : Option Nat).map aa)
      | _ => .int (ab_zi g.2.2.1 g.1.length g.1.length j)) := by
      intro ty _ _ hv
      have z1 : ab_zi g.2.2.1 g.1.length g.1.length j = 0 := by unfold ab_zi; rw [if_pos rfl]
      have z2 : ab_zl g.2.2.2 g.1.length g.1.length j = 0 := by unfold ab_zl; rw [if_pos rfl]
      rw [z1, z2]
      cases ty <;> first | rfl | (simp [ab_vty] at hv)
    exact hty _ ⟨_, hcP.2.2.2.1 j hj⟩ rfl (ab_tys_ok a ha j hj)
  · rw [ab_ws_push hm]
    exact hS.2.2.2.1.push hS.2.2.1 hsz.symm (hA _ (by rw [← hsz]; exact hS.2.2.2.2.1.1))
theorem ab_newar (C0 : ab_Cx p R s m args meth c ow ini cc nL D cy aa zv base ro A mc ms c0 s0 h0 n0) {ty : ArrayType} {a b : Nat} (hty : ab_aty ty = a) (ha : a < 4) {pc : Nat} {ll : ab_L} {g : ab_S} {H : Heap} {locs : List Loc} {ls : Array Slot} (hS : ab_St nL D cy aa zv h0 n0 A s ll g H locs ls)
    {c1 s1 : Nat} (h1 : c1 + 1 ≤ mc) (h2 : s1 + b ≤ ms) (h3 : g.1.length < 1000) (hm : g.2.1.length = g.1.length) {n : Int32} (hn : n.toNatClampNeg = b) (hn0 : ¬ n < 0) (hb8 : b * 8 ≤ 536870912) {rest : List Value} (hd : decode cc pc = .ok (.newarray ty, 2))
    (kk : ∀ (H' : Heap) (locs' : List Loc), ab_St nL D cy aa zv h0 n0 A s ll (g.1 ++ [.inl (a, b)], g.2.1 ++ [[]], ab_zi g.2.2.1 g.1.length, ab_zl g.2.2.2 g.1.length) H' locs' ls → W p l e R s m args below meth c H' locs' (c0 + (c1 + 1)) (s0 + (s1 + b)) Q (F0 m (pc + 2) ls (.ref (aa g.1.length) :: rest))) : W p l e R s m args below meth c H locs (c0 + c1) (s0 + s1) Q (F0 m pc ls (.int n :: rest)) := by
  obtain ⟨hx, hb, hml, hown, hts, hK, hE, hA, hini, hfr, hlo, hce, hsl, haa, hbs⟩ := C0
  have hsz : H.size = aa g.1.length := by rw [haa _ h3]; have := hS.2.2.2.2.2; have := hbs (by omega); omega
  have hq : (Cond.arrayClass (newarray.typeOf ty)).before args s = true ∧ newarray.typeOf ty = ab_at a ∧ b * componentBytes (newarray.typeOf ty) ≤ 536870912 := by
    subst hty
    cases ty <;> first | (exact absurd ha (by decide)) | skip
    · exact ⟨ab_w hts ab_arr.2.2.1 rfl, rfl, by show b * 1 ≤ _; omega⟩
    · exact ⟨ab_w hts ab_arr.2.2.2 rfl, rfl, by show b * 1 ≤ _; omega⟩
    · exact ⟨ab_w hts ab_arr.1 rfl, rfl, by show b * 4 ≤ _; omega⟩
    · exact ⟨ab_w hts ab_arr.2.1 rfl, rfl, by show b * 8 ≤ _; omega⟩
  refine va_newaK hx hb hq.1 rfl hd rfl hn0 hn hq.2.2 (by omega) (by omega) hsz fun H1 cA e1 z1 o1 hAr hNm => ?_
  have hk : ∀ (k : Nat) (x : Nat × va_E), (ab_ws cy aa g)[k]? = some x → H1[x.1]? = H[x.1]? := fun k x hx => o1 x.1 (by rw [← hsz]; exact (hS.2.2.1 k x hx).lt)
  have hcA : cA = cy a := by
    have h9 := (hK.2 a _ (ab_tyat ha)).2
    have h10 : s.vm.findClass ("[" ++ (ab_at a).toString) = some (cy a) := by
      match a, ha, h9 with
      | 0, _, h9 => exact h9
      | 1, _, h9 => exact h9
      | 2, _, h9 => exact h9
      | 3, _, h9 => exact h9
    rw [hq.2.1, h10] at hNm
    exact (Option.some.inj hNm).symm
  subst hcA
  rw [Nat.add_assoc c0, Nat.add_assoc s0]
  refine kk H1 locs ⟨hS.1, hS.2.1, ?_, ?_, ⟨Nat.le_trans hS.2.2.2.2.1.1 (by omega), fun x q1 q2 => (o1 x (by rw [← hsz]; exact Nat.lt_of_lt_of_le q1 hS.2.2.2.2.1.1)).trans (hS.2.2.2.2.1.2.1 x q1 q2), hS.2.2.2.2.1.2.2⟩, by rw [z1, haa _ h3]; have := hbs (by omega); simp; omega⟩
  · rw [ab_ws_push hm]
    refine (hS.2.2.1.kept hk).app (fun k x hx => ?_)
    have hz : k < 1 := (List.getElem?_eq_some_iff.mp hx).1
    rw [show k = 0 by omega] at hx
    cases hx
    show H1[aa g.1.length]? = some (vp_cell _ _)
    rw [e1, hq.2.1]
    have z1 : ab_zi g.2.2.1 g.1.length g.1.length = fun _ => 0 := by unfold ab_zi; rw [if_pos rfl]
    have z2 : ab_zl g.2.2.2 g.1.length g.1.length = fun _ => 0 := by unfold ab_zl; rw [if_pos rfl]
    simp only [ab_ar, z1, z2]
    match a, ha with
    | 0, _ => rfl
    | 1, _ => rfl
    | 2, _ => rfl
    | 3, _ => rfl
  · rw [ab_ws_push hm]
    exact hS.2.2.2.1.push hS.2.2.1 hsz.symm (hA _ (by rw [← hsz]; exact hS.2.2.2.2.1.1))
end ABR
