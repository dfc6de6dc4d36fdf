theorem ab_init_all : ab_ML.all (fun q => decide (q.2.2.2.2.2.1 = 2 → q.2.2.2.1 = none)) = true := by decide +kernel
theorem ab_init_none (a : Nat) (q : ab_Mi) (h : ab_ML[a]? = some q) (h2 : q.2.2.2.2.2.1 = 2) : q.2.2.2.1 = none := of_decide_eq_true (List.all_eq_true.mp ab_init_all q (List.mem_of_getElem? h)) h2
section ABZ
variable {p : Program} {l : Launch} {e : Env} {R : Room} {s : State} {m : MethodId} {args : Array Value} {below : List Frame} {meth : Method} {c : Code} {Q : State → Prop}
variable {ow : Nat} {ini : Bool} {cc : ByteArray} {rt : Option FieldType} {nL : Nat} {D : va_G} {cy : Nat → ClassId} {aa : Nat → Nat} {zv : Value} {base : Nat} {ro : ab_E} {A : Nat → Prop} {mc ms c0 s0 h0 n0 d : Nat} {am : Nat → Nat × Nat}
def ab_cin (kd idx : Nat) : Instr := match kd with
  | 0 => .invokevirtual idx
  | 1 => .invokestatic idx
  | _ => .invokespecial idx
set_option maxHeartbeats 1000000 in
/-- a call of one of our methods -/
theorem ab_call (C0 : ab_Cx p R s m args meth c ow ini cc nL D cy aa zv base ro A mc ms c0 s0 h0 n0) (hR : d + 2 ≤ R.frames ∧ 40 * (d + 2) ≤ R.locals) {kd idx a b w : Nat} {v : Value} {cs : List (Int32 × Nat)} {pc : Nat} {ll : ab_L} {st : List Value} {c1 s1 : Nat} {g : ab_S} {P : Prop} {nx : ab_N} (hkd : kd = 0 ∨ kd = 1 ∨ kd = 2)
    (hca : ab_cac ow kd idx a b v cs w am = true) (hst : ab_ca mc ms a b v cs (pc + 3) ll st c1 s1 g = some (P, nx)) (hd : decode cc pc = .ok (ab_cin kd idx, 3)) {H : Heap} {locs : List Loc} {ls : Array Slot} (hS : ab_St nL D cy aa zv h0 n0 A s ll g H locs ls)
    (K : ∀ (k : Nat) (as : List Value) (pc' : Nat) (ll' : ab_L) (st' : List Value) (c' s' : Nat) (g' : ab_S), nx = .inr (.inr (k, as, pc', ll', st', c', s', g')) → ∃ (r : Option Value) (g'' : ab_S), ab_Ct l D cy aa zv base ro am d k as g' r g'' ∧ ab_Kt p l e R s m args below meth c Q cc rt nL D cy aa zv h0 n0 A mc ms c0 s0 (.inl (pc', ll', r.toList ++ st', c', s', g''))) :
    W p l e R s m args below meth c H locs (c0 + c1) (s0 + s1) Q (F0 m pc ls (st.map (ab_tr aa zv))) := by
  have C1 := C0
  obtain ⟨hx, hb, hml, hown, hts, hK, hE, hA, hin, hfr, hlo, hce, hsl, haa, hbs⟩ := C0
  have hz : zv.category = 1 := hE.2.2.2.2.2.2
  obtain ⟨as, rest, kc, ks, rfl, hlen, hsum, hv1, hv2, ham, hk1, hk2, rfl⟩ := ab_r_ca hst
  obtain ⟨r, g'', hCt, kk⟩ := K _ _ _ _ _ _ _ _ rfl
  unfold ab_cac at hca
  obtain ⟨⟨y, bc, mx, rt', oc, k', n⟩, hML⟩ : ∃ q, ab_ML[a]? = some q := by
    cases h : ab_ML[a]? with
    | none => rw [h] at hca; cases hca
    | some q => exact ⟨q, rfl⟩
  rw [hML] at hca
  dsimp only at hca
  simp only [Bool.and_eq_true, decide_eq_true_eq] at hca
  obtain ⟨⟨⟨⟨hk', hbn⟩, hamc⟩, hvk⟩, hlk⟩ := hca
  subst hk'
  have hame := ham _ hamc
  obtain ⟨hmx, hM⟩ := hCt _ hML
  have hM := hM H.size
  obtain ⟨m1, m2, m3, m4, m5, m6, m7, m8⟩ := ab_ML_ok _ (List.mem_of_getElem? hML)
  have hmth : ab_mth a = y := by unfold ab_mth; rw [hML]
  have hroom : (ab_rm d (am a)).frames + 1 ≤ R.frames ∧ 8 + (mx + 11) + (ab_rm d (am a)).locals ≤ R.locals := by
    have h9 : mx ≤ 21 := hmx
    refine ⟨?_, ?_⟩
    · show d + 1 + 1 ≤ R.frames
      omega
    · show 8 + (mx + 11) + 40 * (d + 1) ≤ R.locals
      omega
  have hgood : GoodIn ab_big (Cond.code y bc mx rt' :: ab_big) := ab_big_good (fun w hw => (List.mem_cons.mp hw).elim (fun q => by rw [q]; exact ab_big_of m6 rfl) id)
  have hf : (c0 + c1) + (am a).1 ≤ R.cells ∧ (s0 + s1) + (am a).2 ≤ R.slots := by
    rw [hame]
    exact ⟨by show c0 + c1 + kc ≤ _; omega, by show s0 + s1 + ks ≤ _; omega⟩
  have hmc : 0 < (am a).1 → 0 < mc := by
    rw [hame]
    intro q
    have q : 0 < kc := q
    omega
  have hpre : ∀ U : State, U.heap = H → s.WarmedH U.vm → va_Pc (as.map (ab_tr aa zv)) (ab_PU D cy aa zv base ro (am a) g H.size) (as.map (ab_tr aa zv)).toArray U := fun U hU hW => ⟨rfl, ab_pre C1 hS hmc hU hW⟩
  have hW8 : 2 * (F0 m pc ls ((as.reverse ++ rest).map (ab_tr aa zv))).monitorRoom + ((rest.map (ab_tr aa zv)).map fun v => v.category).sum ≤ 8 := lv_room (by rw [ab_tr_sum hz]; exact hsum)
  have hsz : ls.size = nL := hS.1.1.trans hS.2.1
  have hini : (Cond.initialized y.cls).before args s = true := ab_w hts m7 rfl
  have hfin : ∀ av, va_Run p l e R s m args below meth c H locs (c0 + c1) (s0 + s1) (am a).1 (am a).2 (F0 m pc ls ((as.reverse ++ rest).map (ab_tr aa zv))) (rest.map (ab_tr aa zv)) (ab_QU D cy aa zv g H.size r g'' av) (va_A (ab_ws cy aa g) H.size) → W p l e R s m args below meth c H locs (c0 + c1) (s0 + s1) Q (F0 m pc ls ((as.reverse ++ rest).map (ab_tr aa zv))) := by
    intro av hr
    refine ab_post C1 hS hr (fun H' locs' hS' => ?_)
    have h9 := kk H' locs' ls hS'
    rw [List.map_append] at h9
    have e1 : (r.toList.map (ab_tr aa zv)) = (r.map (ab_tr aa zv)).toList := by cases r <;> rfl
    rw [e1] at h9
    rw [hame]
    show W p l e R s m args below meth c H' locs' (c0 + c1 + kc) (s0 + s1 + ks) Q _
    rw [Nat.add_assoc c0, Nat.add_assoc s0]
    exact h9
  have hrev : ∀ (k : Nat) (t : List Value), as = .ref k :: t → (as.reverse ++ rest).map (ab_tr aa zv) = (t.map (ab_tr aa zv)).reverse ++ .ref (aa k) :: rest.map (ab_tr aa zv) := by
    intro k t ht
    rw [ht]
    simp [ab_tr]
  rcases hkd with rfl | rfl | rfl
  · -- a virtual call
    have hb1 : b = n + 1 := hbn
    have hl2 : (Cond.methodLink (ab_own ow) idx y).before args s = true := by
      have h9 : ab_MK[w]? = some (ow, idx, a) := by
        cases v <;> first | exact of_decide_eq_true hlk | cases hvk
      have := ab_w hts (ab_MK_ok _ (List.mem_of_getElem? h9)) rfl
      unfold ab_mlw at this
      rw [show ab_mth (ow, idx, a).2.2 = y from hmth] at this
      exact this
    have hrecv : ∃ (k : Nat) (t : List Value), as = .ref k :: t ∧ ∃ cellB : Cell, H[aa k]? = some cellB ∧ cellB.vm.isStatics = false ∧ s.vm.findClass y.cls = some cellB.cls := by
      cases v with
      | ref ci =>
        simp only [Bool.and_eq_true, decide_eq_true_eq] at hvk
        obtain ⟨k, t, ht, hk⟩ := hv1 ci rfl
        have hci : ci < 13 := Nat.le_of_ble_eq_true hvk.2
        obtain ⟨cell, q1, q2, q3⟩ := va_recv hK hS.2.2.1 (ab_clat hci) (ab_ws_at hk)
        exact ⟨k, t, ht, cell, q1, q2, by rw [m1, ← hvk.1]; exact q3⟩
      | null =>
        simp only [decide_eq_true_eq] at hvk
        obtain ⟨k, t, ht, hu1, hu2⟩ := hv2 rfl
        have h9 := (hE.2.1 (k - ab_B) (Nat.sub_lt_left_of_lt_add hu1 hu2)).1
        rw [show ab_B + (k - ab_B) = k from Nat.add_sub_cancel' hu1] at h9
        obtain ⟨cell, q1, q2, q3, q4⟩ := h9
        exact ⟨k, t, ht, cell, by rw [hS.2.2.2.2.1.2.1 _ (Array.getElem?_eq_some_iff.mp q1).1 q4]; exact q1, q2, by rw [m1, hvk]; exact q3⟩
      | _ => cases hvk
    obtain ⟨k, t, ht, hcell⟩ := hrecv
    have ht1 : t.length = n := by
      rw [ht] at hlen
      simp at hlen
      omega
    have hcw : CallW R s args (ab_own ow) y.cls idx y bc mx rt' (Cond.code y bc mx rt' :: ab_big) (ab_rm d (am a)) (am a).1 (am a).2 n := ⟨callB_of n hts hgood rfl rfl rfl hini hl2 ⟨m3, m4, m5⟩ hroom, ab_w hts m8.1 rfl, ab_w hts m8.2 rfl⟩
    refine hfin _ (va_runV (b := aa k) (As := t.map (ab_tr aa zv)) (rest := rest.map (ab_tr aa zv)) ⟨hx, hb, hml, hown, hts⟩ hM hcw ⟨ab_blind, hcell, fun U hU hW => ?_⟩ rfl (by rw [List.length_map]; exact ht1) hsz (hrev k t ht) hW8 hd hf)
    have h9 := hpre U hU hW
    rw [ht] at h9 ⊢
    exact h9
  · -- a static call
    have hb1 : b = n := hbn
    have hl1 : (as.map (ab_tr aa zv)).length = n := by rw [List.length_map, hlen, hb1]
    have hstk : (as.reverse ++ rest).map (ab_tr aa zv) = (as.map (ab_tr aa zv)).reverse ++ rest.map (ab_tr aa zv) := by simp
    cases v with
    | int x =>
      have h9 : ab_MK[w]? = some (ow, idx, a) := of_decide_eq_true hlk
      have hl2 := ab_w hts (ab_MK_ok _ (List.mem_of_getElem? h9)) rfl
      unfold ab_mlw at hl2
      rw [show ab_mth (ow, idx, a).2.2 = y from hmth] at hl2
      exact hfin _ (va_runS (As := as.map (ab_tr aa zv)) (rest := rest.map (ab_tr aa zv)) ⟨hx, hb, hml, hown, hts⟩ hM ⟨callB_of n hts hgood rfl rfl rfl hini hl2 ⟨m3, m4, m5⟩ hroom, ab_w hts m8 rfl⟩ ⟨ab_blind, hpre⟩ rfl hl1 hsz hstk hW8 hd hf)
    | long x =>
      have h9 : ab_nm[w]? = some (ow, idx, a) := of_decide_eq_true hlk
      have hl2 := hE.2.2.2.2.2.1 _ (List.mem_of_getElem? h9)
      unfold ab_nmw at hl2
      rw [show ab_mth (ow, idx, a).2.2 = y from hmth] at hl2
      exact hfin _ (va_runSN (As := as.map (ab_tr aa zv)) (rest := rest.map (ab_tr aa zv)) ⟨hx, hb, hml, hown, hts⟩ hM ⟨va_cnB n hts hgood rfl rfl rfl hl2 hini ⟨m3, m4, m5⟩ hroom, ab_w hts m8 rfl, trivial⟩ ⟨ab_blind, hpre⟩ rfl hl1 hsz hstk hW8 hd hf)
    | _ => cases hvk
  · -- a constructor
    have hb1 : b = n + 1 := hbn
    have h9 : ab_MK[w]? = some (ow, idx, a) := by
      cases v <;> first | exact of_decide_eq_true hlk | cases hvk
    have hl2 := ab_w hts (ab_MK_ok _ (List.mem_of_getElem? h9)) rfl
    unfold ab_mlw at hl2
    rw [show ab_mth (ow, idx, a).2.2 = y from hmth] at hl2
    have hrecv : ∃ (k : Nat) (t : List Value), as = .ref k :: t := by
      cases v with
      | ref ci =>
        obtain ⟨k, t, ht, hk⟩ := hv1 ci rfl
        exact ⟨k, t, ht⟩
      | _ => cases hvk
    obtain ⟨k, t, ht⟩ := hrecv
    have ht1 : t.length = n := by
      rw [ht] at hlen
      simp at hlen
      omega
    have hnone : rt' = none := ab_init_none _ _ hML rfl
    subst hnone
    refine hfin _ (va_runI (b := aa k) (As := t.map (ab_tr aa zv)) (rest := rest.map (ab_tr aa zv)) ⟨hx, hb, hml, hown, hts⟩ hM ⟨callB_of n hts hgood rfl rfl rfl hini hl2 ⟨m3, m4, m5⟩ hroom, m8.1, ab_w hts m8.2 rfl⟩ ⟨ab_blind, fun U hU hW => ?_⟩ rfl (by rw [List.length_map]; exact ht1) hsz (hrev k t ht) hW8 hd hf)
    have h9 := hpre U hU hW
    rw [ht] at h9 ⊢
    exact h9
end ABZ
