section ABH
variable {p : Program} {l : Launch} {e : Env} {R : Room} {s : State} {m : MethodId} {args : Array Value} {below : List Frame} {meth : Method} {c : Code} {Q : State → Prop}
variable {ow : Nat} {ini : Bool} {cc : ByteArray} {rt : Option FieldType} {nL : Nat} {D : va_G} {cy : Nat → ClassId} {aa : Nat → Nat} {zv : Value} {base : Nat} {ro : ab_E} {A : Nat → Prop} {mc ms c0 s0 h0 n0 : Nat} {am : Nat → Nat × Nat}
theorem ab_rf_tr {mr : List (List (Option Nat))} {k j : Nat} : ab_tr aa zv (ab_rf mr k j) = va_rf (((mr.getD k []).getD j none).map aa) := by
  unfold ab_rf
  cases (mr.getD k []).getD j none <;> rfl
theorem ab_fv_int {ty : FieldType} {v : Int32} {mr : List (List (Option Nat))} {mi : Nat → Nat → Int32} {ml : Nat → Nat → Int64} {k j : Nat} (h : ab_vty (.int v) ty = true) : ab_fv ty aa mr mi ml k j = .int (mi k j) := by
  cases ty <;> first | rfl | cases h
theorem ab_fv_long {ty : FieldType} {v : Int64} {mr : List (List (Option Nat))} {mi : Nat → Nat → Int32} {ml : Nat → Nat → Int64} {k j : Nat} (h : ab_vty (.long v) ty = true) : ab_fv ty aa mr mi ml k j = .long (ml k j) := by
  cases ty <;> first | rfl | cases h
theorem ab_fv_ref {ty : FieldType} {mr : List (List (Option Nat))} {mi : Nat → Nat → Int32} {ml : Nat → Nat → Int64} {k j : Nat} (h : ab_vty .null ty = true) : ab_fv ty aa mr mi ml k j = va_rf (((mr.getD k []).getD j none).map aa) := by
  cases ty <;> first | rfl | cases h
/-- a field read -/
theorem ab_getf (C0 : ab_Cx p R s m args meth c ow ini cc nL D cy aa zv base ro A mc ms c0 s0 h0 n0) {idx a b w : Nat} (hw : ab_FL[w]? = some (ow, idx, a, b)) (ha : a < 13) (hbn : b < ab_fn a) {pc : Nat} {ll : ab_L} {g : ab_S} {H : Heap} {locs : List Loc} {ls : Array Slot} (hS : ab_St nL D cy aa zv h0 n0 A s ll g H locs ls)
    {k : Nat} (hk : g.1[k]? = some (.inr a)) {v : Value} (hv : ab_fv (ab_fty a b) aa g.2.1 g.2.2.1 g.2.2.2 k b = v) {cells slots : Nat} {rest : List Value} (hd : decode cc pc = .ok (.getfield idx, 3))
    (kk : W p l e R s m args below meth c H locs cells slots Q (F0 m (pc + 3) ls (v :: rest))) : W p l e R s m args below meth c H locs cells slots Q (F0 m pc ls (.ref (aa k) :: rest)) := by
  obtain ⟨hx, hb, hml, hown, hts, hK, hE, hA, hin, hfr, hlo, hce, hsl, haa, hbs⟩ := C0
  have hq := ab_FL_ok _ (List.mem_of_getElem? hw)
  have hcP := ab_clP_ok a ha
  exact va_get hx hb hts (ab_lays ha) hown hK hS.2.2.1 k (ab_ws_at hk) (ab_clat ha) b hbn (ab_w hts hq rfl) (fun x h => by rw [hcP.2.2.2.2.2 b hbn] at h; exact h) (by rw [ab_fs_at hbn, hv]) hd kk
/-- a field written -/
theorem ab_putf (C0 : ab_Cx p R s m args meth c ow ini cc nL D cy aa zv base ro A mc ms c0 s0 h0 n0) {idx a b w : Nat} (hw : ab_FL[w]? = some (ow, idx, a, b)) (ha : a < 13) (hbn : b < ab_fn a) (hfin : (!((ab_T a) b).2.2.2 || (ini && decide (a = ow))) = true) {pc : Nat} {ll : ab_L} {g g' : ab_S} {H : Heap} {locs : List Loc} {ls : Array Slot} (hS : ab_St nL D cy aa zv h0 n0 A s ll g H locs ls)
    {k : Nat} (hk : g.1[k]? = some (.inr a)) {v : Value} (hv : ab_fv (ab_fty a b) aa g'.2.1 g'.2.2.1 g'.2.2.2 k b = v) (ho : ∀ j, j < ab_fn a → j ≠ b → ab_fv (ab_fty a j) aa g'.2.1 g'.2.2.1 g'.2.2.2 k j = ab_fv (ab_fty a j) aa g.2.1 g.2.2.1 g.2.2.2 k j)
    (hs : g'.1 = g.1) (hr : ∀ q, q ≠ k → g'.2.1.getD q [] = g.2.1.getD q []) (hi : ∀ q, q ≠ k → g'.2.2.1 q = g.2.2.1 q) (hl : ∀ q, q ≠ k → g'.2.2.2 q = g.2.2.2 q) (hn : narrow (ab_fty a b) v = v) (hft : fits (ab_fty a b) v = true) {cells slots : Nat} {rest : List Value} (hd : decode cc pc = .ok (.putfield idx, 3))
    (kk : ∀ (H' : Heap) (locs' : List Loc), ab_St nL D cy aa zv h0 n0 A s ll g' H' locs' ls → W p l e R s m args below meth c H' locs' cells slots Q (F0 m (pc + 3) ls rest)) : W p l e R s m args below meth c H locs cells slots Q (F0 m pc ls (v :: .ref (aa k) :: rest)) := by
  obtain ⟨hx, hb, hml, hown, hts, hK, hE, hA, hin, hfr, hlo, hce, hsl, haa, hbs⟩ := C0
  have hq := ab_FL_ok _ (List.mem_of_getElem? hw)
  have hcP := ab_clP_ok a ha
  have hset : ab_ws cy aa g' = (ab_ws cy aa g).set k (aa k, .inr (a, (ab_fs aa g k a).set b v)) := by
    rw [ab_ws_set hk hs hr hi hl]
    show List.set _ k (aa k, Sum.inr (a, ab_fs aa g' k a)) = _
    rw [ab_fs_set hbn hv ho]
  have hsame : ∀ x, s.fieldFound? ((ab_T a) b).1 ((ab_T a) b).2.1 ((ab_T a) b).2.2.1 = some x → s.fieldFound? (ab_own a) ((ab_T a) b).2.1 ((ab_T a) b).2.2.1 = some x := fun x h => by rw [hcP.2.2.2.2.2 b hbn] at h; exact h
  have fin : ∀ (H1 : Heap) (locs1 : List Loc), va_P D ab_cl ((ab_ws cy aa g).set k (aa k, .inr (a, (ab_fs aa g k a).set b v))) H1 → va_D A ((ab_ws cy aa g).set k (aa k, .inr (a, (ab_fs aa g k a).set b v))) → va_S A s.heap H1 locs1 → H1.size = H.size → W p l e R s m args below meth c H1 locs1 cells slots Q (F0 m (pc + 3) ls rest) := fun H1 locs1 h1 h2 h3 h4 =>
    kk H1 locs1 ⟨hS.1, hS.2.1, by rw [hset]; exact h1, by rw [hset]; exact h2, h3, by rw [h4, hs]; exact hS.2.2.2.2.2⟩
  have hlen : b < (ab_fs aa g k a).length := by rw [ab_fs_len]; exact hbn
  have he := ab_ws_at (cy := cy) (aa := aa) hk
  -- the size of the heap stays: the row of the kit forgets it, so the field's own row is used
  have hap := va_apart (own := ab_own ow) hts (ab_lays ha) (ab_fty a) hcP.2.2.2.1 hcP.2.2.2.2.1 hK (ab_clat ha)
  obtain ⟨r, h1, cell, q1, q2, q3, q4⟩ := hS.2.2.1 k _ he
  have hr' : r = (ab_own a, ab_T a, ab_fn a) := Option.some.inj (h1.symm.trans (ab_clat ha))
  subst hr'
  obtain ⟨hSl, hfc, kC, hkC, hkind⟩ := hK.1 a _ (ab_clat ha)
  obtain ⟨cf, kf, fi, f, hi2, hsl2⟩ := hSl b hbn
  have hst := (u_facts hfc hkC (u_lays hts (ab_lays ha) hbn) hi2).1
  cases hff : ((ab_T a) b).2.2.2 with
  | false =>
    have hlay := hts _ (ab_lays ha _ (u_in_lay hbn))
    unfold u_lay at hlay
    rw [if_neg (by rw [hff]; decide)] at hlay
    have h6 := u_store hfc hkC hkind hlay hi2 (hcP.2.2.2.1 b hbn) hn hft
    refine W.putK hx hb (f := f) ⟨hown, ab_w hts hq rfl, ⟨_, _, _, hsame _ hi2⟩, hst⟩ (by rw [q2]; exact h6) q1 q3 (by rw [hsl2]; exact k2_hasslot (q4 b hbn)) rfl rfl hd fun H' e1 e2 e3 => ?_
    rw [hsl2] at e1 ⊢
    exact fin H' _ (hS.2.2.1.set hS.2.2.2.1 he ⟨_, ab_clat ha, t_OB.to (V := updV (vp_V (ab_fs aa g k a)) b v) ⟨_, e1, q2, q3, t_set q4 hap hbn v⟩ (fun j _ => vp_updV_set hlen v j)⟩ e3) (hS.2.2.2.1.set he) (hS.2.2.2.2.1.put e2 e3 (hS.2.2.2.1.2 k _ he)) e2
  | true =>
    rw [hff] at hfin
    simp only [Bool.not_true, Bool.false_or, Bool.and_eq_true, decide_eq_true_eq] at hfin
    obtain ⟨hini, hao⟩ := hfin
    have hlay := hts _ (ab_lays ha _ (u_in_lay hbn))
    unfold u_lay at hlay
    rw [if_pos hff] at hlay
    have hdecl : ((ab_T a) b).1 = ab_own ow := by rw [hcP.2.2.2.2.2 b hbn, hao]
    have hcf : m.cls = cf := by
      obtain ⟨_, _, c', _, _, _, -, -, hf', -, -, -, hown2, -⟩ := Cond.laysFinal_spec hlay
      have e1 : c' = cf := by have := hi2.symm.trans hf'; simp at this; exact this.1.symm
      rw [hdecl] at hown2
      rw [← e1]; exact Option.some.inj (hown.symm.trans hown2)
    have h6 := u_fits hfc hkC hkind (Or.inr hlay) hi2 (hcP.2.2.2.1 b hbn) hn hft
    refine W.putFinK hx hb hown (ab_w hts hq rfl) (hsame _ hi2) hst hcf (hin hini) (by rw [q2]; exact h6) q1 q3 (by rw [hsl2]; exact k2_hasslot (q4 b hbn)) rfl rfl hd fun H' e1 e2 e3 => ?_
    rw [hsl2] at e1 ⊢
    exact fin H' _ (hS.2.2.1.set hS.2.2.2.1 he ⟨_, ab_clat ha, t_OB.to (V := updV (vp_V (ab_fs aa g k a)) b v) ⟨_, e1, q2, q3, t_set q4 hap hbn v⟩ (fun j _ => vp_updV_set hlen v j)⟩ e3) (hS.2.2.2.1.set he) (hS.2.2.2.2.1.put e2 e3 (hS.2.2.2.1.2 k _ he)) e2
end ABH
