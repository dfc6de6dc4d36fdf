theorem ab_getD_ne {α : Type} (l : List α) {i j : Nat} (x d : α) (h : j ≠ i) : (l.set i x).getD j d = l.getD j d := by
  simp [List.getD, List.getElem?_set_ne (Ne.symm h)]
section ABV
variable {p : Program} {l : Launch} {e : Env} {R : Room} {s : State} {m : MethodId} {args : Array Value} {below : List Frame} {meth : Method} {c : Code} {Q : State → Prop}
variable {ow : Nat} {ini : Bool} {cc : ByteArray} {rt : Option FieldType} {nL : Nat} {D : va_G} {cy : Nat → ClassId} {aa : Nat → Nat} {zv : Value} {base : Nat} {ro : ab_E} {A : Nat → Prop} {mc ms c0 s0 h0 n0 d : Nat} {am : Nat → Nat × Nat}
theorem ab_alen (C0 : ab_Cx p R s m args meth c ow ini cc nL D cy aa zv base ro A mc ms c0 s0 h0 n0) {pc : Nat} {ll : ab_L} {g : ab_S} {H : Heap} {locs : List Loc} {ls : Array Slot} (hS : ab_St nL D cy aa zv h0 n0 A s ll g H locs ls) {k t n : Nat} (ht : t < 4) (hk : g.1[k]? = some (.inl (t, n))) {cells slots : Nat} {rest : List Value} (hd : decode cc pc = .ok (.arraylength, 1))
    (kk : W p l e R s m args below meth c H locs cells slots Q (F0 m (pc + 1) ls (.int (Int32.ofNat n) :: rest))) : W p l e R s m args below meth c H locs cells slots Q (F0 m pc ls (.ref (aa k) :: rest)) := by
  obtain ⟨hx, hb, hml, hown, hts, hK, hE, hA, hin, hfr, hlo, hce, hsl, haa, hbs⟩ := C0
  have he := ab_ws_at (cy := cy) (aa := aa) hk
  exact va_alen hx hb hK hS.2.2.1 k t he (ab_tyat ht) rfl hd kk
end ABV
section ABU
variable {p : Program} {l : Launch} {e : Env} {R : Room} {s : State} {m : MethodId} {args : Array Value} {below : List Frame} {meth : Method} {c : Code} {Q : State → Prop}
variable {ow : Nat} {ini : Bool} {cc : ByteArray} {rt : Option FieldType} {nL : Nat} {D : va_G} {cy : Nat → ClassId} {aa : Nat → Nat} {zv : Value} {base : Nat} {ro : ab_E} {A : Nat → Prop} {mc ms c0 s0 h0 n0 d : Nat} {am : Nat → Nat × Nat}
theorem ab_nar_ok {b : Nat} {x : Int32} (h : ab_nar b x) (hr : rt = ab_rtc b) : ab_rok rt (some (.int x)) := by
  subst hr
  match b, h with
  | 0, _ => exact ⟨.int, rfl, rfl⟩
  | 1, h =>
    refine ⟨.boolean, rfl, ?_⟩
    rcases h with rfl | rfl <;> rfl
  | 2, h => exact ⟨.char, rfl, h⟩
  | b + 3, h => exact ⟨.byte, rfl, h⟩
set_option maxHeartbeats 4000000 in
set_option maxRecDepth 100000 in
/-- a step of the abstract machine is one of the JVM -/
theorem ab_step_ok (C0 : ab_Cx p R s m args meth c ow ini cc nL D cy aa zv base ro A mc ms c0 s0 h0 n0) (hR : d + 2 ≤ R.frames ∧ 40 * (d + 2) ≤ R.locals) {i : Instr} {len a b w : Nat} {v : Value} {cs : List (Int32 × Nat)} {pc : Nat} {ll : ab_L} {st : List Value} {c1 s1 : Nat} {g : ab_S} {P : Prop} {nx : ab_N}
    (hck : ab_chk am ow ini cc rt pc (i, len, a, b, v, cs, w) = true) (hst : ab_step ro mc ms (i, len, a, b, v, cs, w) (pc, ll, st, c1, s1, g) = some (P, nx)) (hP : P) {H : Heap} {locs : List Loc} {ls : Array Slot} (hS : ab_St nL D cy aa zv h0 n0 A s ll g H locs ls)
    (K1 : ∀ f, nx = .inl f → ab_Kt p l e R s m args below meth c Q cc rt nL D cy aa zv h0 n0 A mc ms c0 s0 (.inl f))
    (K2 : ∀ r, nx = .inr (.inl r) → ab_Kt p l e R s m args below meth c Q cc rt nL D cy aa zv h0 n0 A mc ms c0 s0 (.inr r))
    (K3 : ∀ (k : Nat) (as : List Value) (pc' : Nat) (ll' : ab_L) (st' : List Value) (c' s' : Nat) (g' : ab_S), nx = .inr (.inr (k, as, pc', ll', st', c', s', g')) → ∃ (r : Option Value) (g'' : ab_S), ab_Ct l D cy aa zv base ro am d k as g' r g'' ∧ ab_Kt p l e R s m args below meth c Q cc rt nL D cy aa zv h0 n0 A mc ms c0 s0 (.inl (pc', ll', r.toList ++ st', c', s', g''))) :
    W p l e R s m args below meth c H locs (c0 + c1) (s0 + s1) Q (F0 m pc ls (st.map (ab_tr aa zv))) := by
  have C1 := C0
  obtain ⟨hx, hb, hml, hown, hts, hK, hE, hA, hin, hfr, hlo, hce, hsl, haa, hbs⟩ := C0
  have hz : zv.category = 1 := hE.2.2.2.2.2.2
  have hlh := hS.1
  have hlen := hS.2.1
  have hW := hS.2.2.2.2.1
  have hcl : ∀ {kd idx : Nat}, kd = 0 ∨ kd = 1 ∨ kd = 2 → ab_cac ow kd idx a b v cs w am = true → ab_ca mc ms a b v cs (pc + 3) ll st c1 s1 g = some (P, nx) → decode cc pc = .ok (ab_cin kd idx, 3) → W p l e R s m args below meth c H locs (c0 + c1) (s0 + s1) Q (F0 m pc ls (st.map (ab_tr aa zv))) := by
    intro kd idx h1 h2 h3 h4
    exact ab_call (d := d) (am := am) (rt := rt) C1 hR h1 h2 h3 h4 hS K3
  by_cases hpl : ab_plain i = true
  · exact ab_step_a C1 hck hst hP hS hpl K1
  cases i with
  | getstatic idx =>
    simp only [ab_chk, Bool.and_eq_true, decide_eq_true_eq, Bool.or_eq_true] at hck
    obtain ⟨hd, ⟨rfl, h1⟩, h2⟩ := hck
    cases hst
    split at h1
    · rename_i C n dd y hq
      have hy : y = v := of_decide_eq_true h1
      subst hy
      have hZ := hE.2.2.2.1 _ (List.mem_of_getElem? hq)
      rcases h2 with ⟨-, h2⟩ | ⟨-, h2⟩
      · have h3 := ab_GS_ok _ (List.mem_of_getElem? h2)
        unfold ab_gsw at h3
        rw [show ab_stts[(ow, idx, a).2.2]? = some (C, n, dd, y) from hq] at h3
        exact va_gets hx hb hZ hW hown (ab_w hts h3 rfl) (fun x h => h) hd (K1 _ rfl _ _ _ hS)
      · have h3 := hE.2.2.2.2.1 _ (List.mem_of_getElem? h2)
        unfold ab_nfw at h3
        rw [show ab_stts[(ow, idx, a).2.2]? = some (C, n, dd, y) from hq] at h3
        exact va_getsN hx hb hZ hW hown (va_Nw.use rfl h3) (fun x h => h) hd (K1 _ rfl _ _ _ hS)
    · cases h1
  | ldc idx =>
    simp only [ab_chk, Bool.and_eq_true, decide_eq_true_eq] at hck
    obtain ⟨hd, rfl, h1⟩ := hck
    cases hst
    cases v with
    | int x =>
      have hq := ab_KI_ok _ (List.mem_of_getElem? (of_decide_eq_true h1))
      exact lv_ldc hx hb hown (ab_w hts hq rfl) hd (K1 _ rfl _ _ _ hS)
    | ref x =>
      dsimp only at h1
      split at h1
      · rename_i o2 j t y hq
        simp only [Bool.and_eq_true, decide_eq_true_eq] at h1
        obtain ⟨⟨rfl, rfl⟩, rfl⟩ := h1
        have hZ := hE.2.2.1 _ (List.mem_of_getElem? hq)
        exact va_ldcS hx hb hown hZ hd (K1 _ rfl _ _ _ hS)
      · cases h1
    | _ => cases h1
  | getfield idx =>
    simp only [ab_chk, Bool.and_eq_true, decide_eq_true_eq] at hck
    obtain ⟨hd, rfl, h1⟩ := hck
    obtain ⟨k, r, rfl, h2⟩ := ab_r_gf hst
    rcases h2 with ⟨x, rfl, hk, rfl⟩ | ⟨x, rfl, hk, rfl⟩ | ⟨rfl, hk, rfl⟩ | ⟨x, rfl, hk1, hk2, rfl⟩ | ⟨x, rfl, hk1, hk2, rfl⟩
    · simp only [Bool.and_eq_true, decide_eq_true_eq] at h1
      exact ab_getf C1 h1.1.1.1 (Nat.le_of_ble_eq_true h1.1.1.2) (Nat.le_of_ble_eq_true h1.1.2) hS hk (ab_fv_int h1.2) hd (K1 _ rfl _ _ _ hS)
    · simp only [Bool.and_eq_true, decide_eq_true_eq] at h1
      exact ab_getf C1 h1.1.1.1 (Nat.le_of_ble_eq_true h1.1.1.2) (Nat.le_of_ble_eq_true h1.1.2) hS hk (ab_fv_long h1.2) hd (K1 _ rfl _ _ _ hS)
    · simp only [Bool.and_eq_true, decide_eq_true_eq] at h1
      exact ab_getf C1 h1.1.1.1 (Nat.le_of_ble_eq_true h1.1.1.2) (Nat.le_of_ble_eq_true h1.1.2) hS hk ((ab_fv_ref h1.2).trans ab_rf_tr.symm) hd (K1 _ rfl _ _ _ hS)
    · have h9 := (hE.2.1 (k - ab_B) (Nat.sub_lt_left_of_lt_add hk1 hk2)).2.2
      rw [show ab_B + (k - ab_B) = k from Nat.add_sub_cancel' hk1] at h9
      have h8 := of_decide_eq_true h1
      obtain ⟨rfl, rfl⟩ := h8
      exact vk_getf hx hb h9 hW hown (ab_w hts ab_sfl.1 rfl) (fun x h => h) hd (K1 _ rfl _ _ _ hS)
    · have h9 := (hE.2.1 (k - ab_B) (Nat.sub_lt_left_of_lt_add hk1 hk2)).2.1
      rw [show ab_B + (k - ab_B) = k from Nat.add_sub_cancel' hk1] at h9
      have h8 := of_decide_eq_true h1
      obtain ⟨rfl, rfl⟩ := h8
      exact vk_getf hx hb h9 hW hown (ab_w hts ab_sfl.2 rfl) (fun x h => h) hd (K1 _ rfl _ _ _ hS)
  | putfield idx =>
    simp only [ab_chk, Bool.and_eq_true, decide_eq_true_eq] at hck
    obtain ⟨hd, ⟨⟨⟨⟨⟨rfl, h1⟩, h2⟩, h3⟩, h4⟩, h5⟩, h6⟩ := hck
    have h2 : a < 13 := Nat.le_of_ble_eq_true h2
    have h3 : b < ab_fn a := Nat.le_of_ble_eq_true h3
    obtain ⟨k, r, hk, hq⟩ := ab_r_pf hst
    rcases hq with ⟨x, y, rfl, rfl, hy, rfl⟩ | ⟨x, y, rfl, rfl, rfl⟩ | ⟨y, rfl, rfl, hk1, hk2, rfl⟩
    · refine ab_putf C1 h1 h2 h3 h6 hS hk (g' := (g.1, g.2.1, ab_ui g.2.2.1 k b y, g.2.2.2)) (v := .int y) ?_ ?_ rfl (fun _ _ => rfl) (fun q hq => ab_ui_ne hq) (fun _ _ => rfl) ?_ ?_ hd (fun H' locs' hS' => K1 _ rfl _ _ _ hS')
      · rw [ab_fv_int h4]
        dsimp only
        rw [ab_ui_eq]
        simp [upd]
      · intro j hj hjb
        unfold ab_fv
        dsimp only
        rw [ab_ui_eq]
        simp only [upd, if_neg hjb]
      · cases hty : ab_fty a b <;> rw [hty] at h4 h5 <;> first | rfl | (cases h4; done) | skip
        rcases hy with hy | hy
        · rw [ab_bty, hy] at h5
          cases h5
        · rw [hy] at hP
          rcases hP with rfl | rfl <;> rfl
      · cases hty : ab_fty a b <;> rw [hty] at h4 h5 <;> first | rfl | (cases h4; done) | skip
        rcases hy with hy | hy
        · rw [ab_bty, hy] at h5
          cases h5
        · rw [hy] at hP
          rcases hP with rfl | rfl <;> rfl
    · refine ab_putf C1 h1 h2 h3 h6 hS hk (g' := (g.1, g.2.1, g.2.2.1, ab_ul g.2.2.2 k b y)) (v := .long y) ?_ ?_ rfl (fun _ _ => rfl) (fun _ _ => rfl) (fun q hq => ab_ul_ne hq) ?_ ?_ hd (fun H' locs' hS' => K1 _ rfl _ _ _ hS')
      · rw [ab_fv_long h4]
        dsimp only
        rw [ab_ul_eq]
        simp [vp_updL]
      · intro j hj hjb
        unfold ab_fv
        dsimp only
        rw [ab_ul_eq]
        simp only [vp_updL, if_neg hjb]
      · cases hty : ab_fty a b <;> rw [hty] at h4 <;> first | rfl | (cases h4; done)
      · cases hty : ab_fty a b <;> rw [hty] at h4 <;> first | rfl | (cases h4; done)
    · refine ab_putf C1 h1 h2 h3 h6 hS hk (g' := (g.1, g.2.1.set k ((g.2.1.getD k []).set b (some y)), g.2.2.1, g.2.2.2)) (v := .ref (aa y)) ?_ ?_ rfl ?_ (fun _ _ => rfl) (fun _ _ => rfl) ?_ ?_ hd (fun H' locs' hS' => K1 _ rfl _ _ _ hS')
      · rw [ab_fv_ref h4]
        have e1 : (g.2.1.set k ((g.2.1.getD k []).set b (some y))).getD k [] = (g.2.1.getD k []).set b (some y) := by
          rw [List.getD_eq_getElem?_getD, List.getElem?_set_self hk1]
          rfl
        rw [e1, List.getD_eq_getElem?_getD, List.getElem?_set_self hk2]
        rfl
      · intro j hj hjb
        have e1 : (g.2.1.set k ((g.2.1.getD k []).set b (some y))).getD k [] = (g.2.1.getD k []).set b (some y) := by
          rw [List.getD_eq_getElem?_getD, List.getElem?_set_self hk1]
          rfl
        have e2 : ((g.2.1.getD k []).set b (some y)).getD j none = (g.2.1.getD k []).getD j none := ab_getD_ne _ _ _ hjb
        unfold ab_fv
        rw [e1, e2]
      · intro q hq
        show (g.2.1.set k ((g.2.1.getD k []).set b (some y))).getD q [] = g.2.1.getD q []
        exact ab_getD_ne _ _ _ hq
      · cases hty : ab_fty a b <;> rw [hty] at h4 <;> first | rfl | (cases h4; done)
      · cases hty : ab_fty a b <;> rw [hty] at h4 <;> first | rfl | (cases h4; done)
  | new idx =>
    simp only [ab_chk, Bool.and_eq_true, decide_eq_true_eq] at hck
    obtain ⟨hd, ⟨⟨rfl, h1⟩, h2⟩, rfl⟩ := hck
    obtain ⟨q1, q2, q3, q4, rfl⟩ := ab_r_nw hst
    exact ab_newc C1 h1 (Nat.le_of_ble_eq_true h2) hS q1 q2 q3 q4 hd (fun H' locs' hS' => K1 _ rfl _ _ _ hS')
  | newarray ty =>
    simp only [ab_chk, Bool.and_eq_true, decide_eq_true_eq] at hck
    obtain ⟨hd, ⟨⟨rfl, h1⟩, h2⟩, h3⟩ := hck
    obtain ⟨n, r, rfl, q1, q2, q3, q4, rfl, rfl⟩ := ab_r_na hst
    exact ab_newar C1 h1 (Nat.le_of_ble_eq_true h2) hS q1 q2 q3 q4 hP.1 hP.2 (Nat.le_of_ble_eq_true h3) hd (fun H' locs' hS' => K1 _ rfl _ _ _ hS')
  | iaload =>
    simp only [ab_chk, Bool.and_eq_true, decide_eq_true_eq] at hck
    obtain ⟨hd, rfl⟩ := hck
    obtain ⟨i, k, r, rfl, h1⟩ := ab_r_ald hst
    rcases h1 with ⟨t, n, hk, ht, rfl, rfl⟩ | ⟨t, n, f, hk, ht, rfl, rfl⟩
    · have ht : t = 0 := by omega
      subst ht
      exact va_iald hx hb hK hS.2.2.1 k 0 (ab_ws_at hk) (ab_tyat (by decide)) hP hd (K1 _ rfl _ _ _ hS)
    · have ht : t = 0 := by omega
      subst ht
      exact va_ti hx hb (hE.1 _ _ _ _ hk) hW hP rfl hd (K1 _ rfl _ _ _ hS)
  | laload =>
    simp only [ab_chk, Bool.and_eq_true, decide_eq_true_eq] at hck
    obtain ⟨hd, rfl⟩ := hck
    obtain ⟨i, k, r, rfl, h1⟩ := ab_r_ald hst
    rcases h1 with ⟨t, n, hk, ht, rfl, rfl⟩ | ⟨t, n, f, hk, ht, rfl, rfl⟩
    · have ht : t = 1 := by omega
      subst ht
      exact va_lald hx hb hK hS.2.2.1 k 1 (ab_ws_at hk) (ab_tyat (by decide)) hP hd (K1 _ rfl _ _ _ hS)
    · have ht : t = 1 := by omega
      subst ht
      exact va_tl hx hb (hE.1 _ _ _ _ hk) hW hP rfl hd (K1 _ rfl _ _ _ hS)
  | baload =>
    simp only [ab_chk, Bool.and_eq_true, decide_eq_true_eq] at hck
    obtain ⟨hd, rfl⟩ := hck
    obtain ⟨i, k, r, rfl, h1⟩ := ab_r_ald hst
    rcases h1 with ⟨t, n, hk, ht, rfl, rfl⟩ | ⟨t, n, f, hk, ht, rfl, rfl⟩
    · rcases ht with rfl | rfl
      · exact va_zald hx hb hK hS.2.2.1 k 2 (ab_ws_at hk) (ab_tyat (by decide)) hP hd (K1 _ rfl _ _ _ hS)
      · exact va_bald hx hb hK hS.2.2.1 k 3 (ab_ws_at hk) (ab_tyat (by decide)) hP hd (K1 _ rfl _ _ _ hS)
    · rcases ht with rfl | rfl
      · exact va_tz hx hb (hE.1 _ _ _ _ hk) hW hP rfl hd (K1 _ rfl _ _ _ hS)
      · exact va_tb hx hb (hE.1 _ _ _ _ hk) hW hP rfl hd (K1 _ rfl _ _ _ hS)
  | iastore =>
    simp only [ab_chk, Bool.and_eq_true, decide_eq_true_eq] at hck
    obtain ⟨hd, rfl⟩ := hck
    obtain ⟨x, i, k, r, t, n, rfl, hk, ht, rfl, rfl⟩ := ab_r_ast hst
    have ht : t = 0 := by omega
    subst ht
    exact ab_asti C1 (Or.inl rfl) hS hk hP hd (fun H' locs' hS' => K1 _ rfl _ _ _ hS')
  | bastore =>
    simp only [ab_chk, Bool.and_eq_true, decide_eq_true_eq] at hck
    obtain ⟨hd, rfl⟩ := hck
    obtain ⟨x, i, k, r, t, n, rfl, hk, ht, rfl, rfl⟩ := ab_r_ast hst
    rcases ht with rfl | rfl
    · exact ab_asti C1 (Or.inr (Or.inl rfl)) hS hk hP hd (fun H' locs' hS' => K1 _ rfl _ _ _ hS')
    · exact ab_asti C1 (Or.inr (Or.inr rfl)) hS hk hP hd (fun H' locs' hS' => K1 _ rfl _ _ _ hS')
  | lastore =>
    simp only [ab_chk, Bool.and_eq_true, decide_eq_true_eq] at hck
    obtain ⟨hd, rfl⟩ := hck
    obtain ⟨x, i, k, r, n, rfl, hk, rfl, rfl⟩ := ab_r_lst hst
    exact ab_astl C1 hS hk hP hd (fun H' locs' hS' => K1 _ rfl _ _ _ hS')
  | arraylength =>
    simp only [ab_chk, Bool.and_eq_true, decide_eq_true_eq] at hck
    obtain ⟨hd, rfl⟩ := hck
    obtain ⟨k, r, n, rfl, rfl, h1⟩ := ab_r_len hst
    rcases h1 with ⟨t, ht, hk⟩ | ⟨t, f, hk⟩
    · exact ab_alen C1 hS ht hk hd (K1 _ rfl _ _ _ hS)
    · exact va_tlen hx hb (hE.1 _ _ _ _ hk) hW rfl hd (K1 _ rfl _ _ _ hS)
  | invokevirtual idx =>
    simp only [ab_chk, Bool.and_eq_true, decide_eq_true_eq] at hck
    obtain ⟨hd, rfl, h1⟩ := hck
    exact hcl (Or.inl rfl) h1 hst hd
  | invokestatic idx =>
    simp only [ab_chk, Bool.and_eq_true, decide_eq_true_eq] at hck
    obtain ⟨hd, rfl, h1⟩ := hck
    have hst : ab_is mc ms a b v cs (pc + 3) ll st c1 s1 g = some (P, nx) := hst
    cases v with
    | float x =>
      have h2 := ab_NK_ok _ (List.mem_of_getElem? (of_decide_eq_true h1))
      obtain ⟨x, y, r, rfl, hsum, hc1, hs1, rfl⟩ := ab_r_mi2 hst
      refine va_mmin hx hb (hml.trans (hlh.1.trans hlen).symm) hown (ab_w hts h2 rfl) (ab_w hts ab_mn.1 rfl) (ab_w hts ab_mn.2.1 rfl) (ab_w hts ab_mn.2.2 rfl) hfr ?_ (by omega) (by omega) hd (K1 _ rfl _ _ _ hS)
      rw [ab_tr_sum hz]
      omega
    | _ => exact hcl (Or.inr (Or.inl rfl)) h1 hst hd
  | invokespecial idx =>
    simp only [ab_chk, Bool.and_eq_true, decide_eq_true_eq] at hck
    obtain ⟨hd, rfl, h1⟩ := hck
    have hst : ab_ip mc ms a b v cs (pc + 3) ll st c1 s1 g = some (P, nx) := hst
    cases v with
    | double x =>
      have h2 := ab_OK_ok _ (List.mem_of_getElem? (of_decide_eq_true h1))
      obtain ⟨k, r, rfl, hsum, rfl⟩ := ab_r_ob hst
      refine W.objInit hx hb hown (ab_w hts h2 rfl) (ab_w hts ab_oi.1 rfl) (ab_w hts ab_oi.2 rfl) rfl (hlh.1.trans (hlen.trans hml.symm)) rfl hd hfr ?_ (K1 _ rfl _ _ _ hS)
      have := lv_room (m := m) (pc := pc) (ls := ls) (rest := (Value.ref k :: r).map (ab_tr aa zv)) (st := r.map (ab_tr aa zv)) (by rw [ab_tr_sum hz]; exact hsum)
      omega
    | _ => exact hcl (Or.inr (Or.inr rfl)) h1 hst hd
  | ireturn =>
    simp only [ab_chk, Bool.and_eq_true, decide_eq_true_eq] at hck
    obtain ⟨hd, rfl, h1⟩ := hck
    have hst : ab_ri mc ms b st c1 s1 g = some (P, nx) := hst
    unfold ab_ri at hst
    split at hst
    · obtain ⟨q1, q2, rfl, rfl⟩ := ab_r_rt hst
      exact K2 _ rfl H locs ls pc c1 s1 q1 q2 hd (ab_nar_ok hP h1) hS.2.2.1 hS.2.2.2.1 hW hS.2.2.2.2.2
    · cases hst
  | lreturn =>
    simp only [ab_chk, Bool.and_eq_true, decide_eq_true_eq] at hck
    obtain ⟨hd, rfl, h1⟩ := hck
    have hst : ab_rj mc ms st c1 s1 g = some (P, nx) := hst
    unfold ab_rj at hst
    split at hst
    · obtain ⟨q1, q2, rfl, rfl⟩ := ab_r_rt hst
      exact K2 _ rfl H locs ls pc c1 s1 q1 q2 hd h1 hS.2.2.1 hS.2.2.2.1 hW hS.2.2.2.2.2
    · cases hst
  | return_ =>
    simp only [ab_chk, Bool.and_eq_true, decide_eq_true_eq] at hck
    obtain ⟨hd, rfl, h1⟩ := hck
    have hst : ab_rv mc ms st c1 s1 g = some (P, nx) := hst
    unfold ab_rv at hst
    split at hst
    · obtain ⟨q1, q2, rfl, rfl⟩ := ab_r_rt hst
      exact K2 _ rfl H locs ls pc c1 s1 q1 q2 hd h1 hS.2.2.1 hS.2.2.2.1 hW hS.2.2.2.2.2
    · cases hst
  | _ => exact absurd rfl hpl
end ABU
