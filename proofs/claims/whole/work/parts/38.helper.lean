/-! The law's helper: it calls count and catches what it throws. -/
theorem dcl_0 : decode cL_count 0 = .ok (.aload_n 2, 1) := by decide +kernel
theorem dcl_1 : decode cL_count 1 = .ok (.iconst 0, 1) := by decide +kernel
theorem dcl_2 : decode cL_count 2 = .ok (.aload_n 0, 1) := by decide +kernel
theorem dcl_3 : decode cL_count 3 = .ok (.iload_n 1, 1) := by decide +kernel
theorem dcl_4 : decode cL_count 4 = .ok (.invokevirtual 7, 3) := by decide +kernel
theorem dcl_12 : decode cL_count 12 = .ok (.astore_n 3, 1) := by decide +kernel
theorem dcl_13 : decode cL_count 13 = .ok (.iconst 1, 1) := by decide +kernel
theorem dcl_14 : decode cL_count 14 = .ok (.ireturn, 1) := by decide +kernel
def cn_QH (D : va_G) (cy : Nat → ClassId) (aa : Nat → Nat) (g : ab_S) (sz : Nat) (r : Int32) (g' : ab_S) : Array Value → State → Outcome → State → Prop := fun _ st oc t =>
  oc = .returned (some (.int r)) ∧ va_P D ab_cl (ab_ws cy aa g') t.heap ∧ va_D (va_A (ab_ws cy aa g) sz) (ab_ws cy aa g') ∧ va_F (va_A (ab_ws cy aa g) sz) st t
abbrev cn_ws : List Cond := Cond.codeWith yL_count cL_count 4 (some .int) [(0, 9, 12, 13)] :: ab_big
abbrev cn_rm : Room := { frames := 50, cells := 1, slots := 6, locals := 2000 }
theorem cn_met {l : Launch} {y : MethodName} {ws : List Cond} {rm : Room} {Pc : Array Value → State → Prop} {Qc : Array Value → State → Outcome → State → Prop} {mc ms : Nat} {free : Addr → Prop} (h : vx_Met l y ws rm Pc Qc (fun _ _ _ => False) mc ms free) : Met l y ws rm Pc Qc mc ms free := by
  intro p e ha hc hk s m args below hf hap hP hKt
  obtain ⟨k, o, h1, h2, h3, hQ⟩ := h p e ha hc hk s m args below hf hap hP hKt
  refine ⟨k, o, h1, h2, h3, ?_⟩
  rcases hQ with hQ | ⟨q, -, E, ce, L, hx, -⟩
  · exact hQ
  · exact hx.elim
theorem cn_K : ab_MK[175]? = some (19, 7, 133) := rfl
theorem cn_M : ab_ML[133]? = some (yX11_count, cX11_count, 2, some .int, 11, 0, 1) := rfl
set_option maxHeartbeats 1000000 in
theorem cn_hlp_thr {l : Launch} (hl : l.stackTraces = false) {D : va_G} {cy : Nat → ClassId} {aa : Nat → Nat} {zv : Value} {base : Nat} {ro : ab_E} {mi : Nat → Nat → Int32} {ml : Nat → Nat → Int64} {sz : Nat} {x : Int32} (hx : x.toInt < 0 ∨ 9 < x.toInt) :
    Met l yL_count cn_ws cn_rm (va_Pc [.ref (aa 0), .int x, .ref (aa 83)] (cn_P D cy aa zv base ro (ab_G mi ml) sz)) (cn_QH D cy aa (ab_G mi ml) sz 1 (ab_G mi ml)) 1 6 (va_A (ab_ws cy aa (ab_G mi ml)) sz) := by
  refine cn_met (vx_ofWH (cc := cL_count) (maxL := 4) (ret := some .int) (hh := [(0, 9, 12, 13)]) (by decide +kernel) rfl ?_)
  intro p e s m args below meth c s₁ B hml hv
  obtain ⟨rfl, ⟨hsz, hP, hK, hD0, hE, hbs⟩, hEX⟩ := hv
  have hts := atoms_spec (ws := cn_ws) B.pre
  have htab := vx_table (x := yL_count) B (hts _ List.mem_cons_self)
  have hown : s.vm.findClass (ab_own 19) = some m.cls := findClass_of_methodNamed B.named
  subst hsz
  have hts2 : ∀ w ∈ ab_big, w.before #[Value.ref (aa 0), .int x, .ref (aa 83)] s = true := fun w hw => hts w (List.mem_cons_of_mem _ hw)
  have hA : ∀ q : Nat, s.heap.size ≤ q → va_A (ab_ws cy aa (ab_G mi ml)) s.heap.size q := fun q h => Or.inr h
  have hD : va_D (va_A (ab_ws cy aa (ab_G mi ml)) s.heap.size) (ab_ws cy aa (ab_G mi ml)) := hD0.self
  have hl2 := lv_entry ([.ref (aa 0), .int x, .ref (aa 83)]) (n := 4) (Nat.le_of_ble_eq_true rfl)
  rw [lg_entry_eq]
  generalize (lg_sl ([.ref (aa 0), .int x, .ref (aa 83)]) ++ List.replicate (4 - (lg_sl ([.ref (aa 0), .int x, .ref (aa 83)])).length) Slot.unset).toArray = ls at hl2 ⊢
  have hl3 : lv_has ls 4 [(0, .ref (aa 0)), (1, .int x), (2, .ref (aa 83))] := hl2
  refine lv_aload_n B.exec B.bytes dcl_0 rfl (lv_at hl3 2 rfl) ?_
  refine lv_iconst (v := 0) B.exec B.bytes dcl_1 (by decide) ?_
  refine lv_aload_n B.exec B.bytes dcl_2 rfl (lv_at hl3 0 rfl) ?_
  refine lv_iload_n B.exec B.bytes dcl_3 rfl (lv_at hl3 1 rfl) ?_
  obtain ⟨m1, m2, m3, m4, m5, m6, m7, m8⟩ := ab_ML_ok _ (List.mem_of_getElem? cn_M)
  have hgood : GoodIn ab_big (Cond.code yX11_count cX11_count 2 (some .int) :: ab_big) := ab_big_good (fun w hw => (List.mem_cons.mp hw).elim (fun q => by rw [q]; exact ab_big_of m6 rfl) id)
  have hl4 : (Cond.methodLink (ab_own 19) 7 yX11_count).before #[Value.ref (aa 0), .int x, .ref (aa 83)] s = true := ab_w hts2 (ab_MK_ok _ (List.mem_of_getElem? cn_K)) rfl
  have hrecv := va_recv hK hP (ab_clat (a := 11) (by decide)) (ab_ws_at (cy := cy) (aa := aa) (g := ab_G mi ml) (k := 0) (kd := .inr 11) rfl)
  have hcw : CallW (headSpec cn_ws cn_rm).room s #[Value.ref (aa 0), .int x, .ref (aa 83)] (ab_own 19) yX11_count.cls 7 yX11_count cX11_count 2 (some .int) (Cond.code yX11_count cX11_count 2 (some .int) :: ab_big) { frames := 8, cells := 1, slots := 6, locals := 320 } 1 6 1 :=
    ⟨callB_of 1 hts2 hgood rfl rfl rfl (ab_w hts2 m7 rfl) hl4 ⟨m3, m4, m5⟩ ⟨by decide, by decide⟩, ab_w hts2 m8.1 rfl, ab_w hts2 m8.2 rfl⟩
  have hr := vx_runV (p := p) (l := l) (e := e) (below := below) (meth := meth) (locs := []) (cells := 0) (slots := 0) (H := s.heap) (b := aa 0) (As := [.int x]) (rest := [.int 0, .ref (aa 83)]) (g := F0 m 4 ls [.int x, .ref (aa 0), .int 0, .ref (aa 83)]) ⟨B.exec, B.bytes, hml, hown, hts2⟩ (cn_thr hl (D := D) (cy := cy) (aa := aa) (zv := zv) (base := base) (ro := ro) (g := ab_G mi ml) (sz := s.heap.size) hx) hcw
    ⟨cn_blind, hrecv, fun U hU hW => ⟨rfl, ⟨by rw [hU], by rw [hU]; exact hP, va_K.moved hW.alike hK, hD0, ab_Env.go hE hW va_S.rf hU (fun _ h => h), hbs⟩, cn_EX.go hEX hW va_S.rf hU (fun _ h => h)⟩⟩ rfl rfl hl3.1 rfl (lv_room (Nat.le_of_ble_eq_true rfl)) dcl_4 ⟨by decide, by decide⟩
  intro T hT X
  rcases hr T hT X with ⟨v, st₀, t, T', L, h0, X', hL, e1, e2, hF, st⟩ | ⟨q, st₀, t, T', L, E, ce, h0, X', hL, e1, e2, ⟨hE1, hz, hk⟩, hce, hcv, hcl, st⟩
  · exact hF.elim
  · subst hE1
    rw [h0] at hz hk
    have hS2 : va_S (va_A (ab_ws cy aa (ab_G mi ml)) s.heap.size) s.heap T'.heap ([] ++ L) := ⟨by rw [e1]; exact hz, fun z z1 _ => by rw [e1]; exact hk z z1, fun z hz2 => hL z (by simpa using hz2)⟩
    have hP2 : va_P D ab_cl (ab_ws cy aa (ab_G mi ml)) T'.heap := hP.kept (fun k z hz2 => by rw [e1]; exact hk _ ((hP k z hz2).lt))
    have kk : W p l e (headSpec cn_ws cn_rm).room s m #[Value.ref (aa 0), .int x, .ref (aa 83)] below meth c T'.heap ([] ++ L) (0 + 1) (0 + 6) (vx_MQ below (cn_QH D cy aa (ab_G mi ml) s.heap.size 1 (ab_G mi ml)) (fun _ _ _ => False) #[Value.ref (aa 0), .int x, .ref (aa 83)] s 1 6 (va_A (ab_ws cy aa (ab_G mi ml)) s.heap.size)) (F0 m 12 ls [.ref q]) := by
      refine lv_astore_n (lv' := [(3, .ref q), (0, .ref (aa 0)), (1, .int x), (2, .ref (aa 83))]) B.exec B.bytes dcl_12 rfl hl3 (by decide) rfl (fun ls hl => ?_)
      refine lv_iconst (v := 1) B.exec B.bytes dcl_13 (by decide) ?_
      exact vx_ret (W.iret B.exec B.bytes B.returns (fun t ht _ => ⟨rfl, by rw [ht]; exact hP2, hD, hS2.F ht⟩) hS2.2.2 dcl_14 B.notSynchronized)
    obtain ⟨t2, a2, b2⟩ := vx_catch (own := ab_own 19) (name := cn_X) (E := cn_X) (pc := 4) (ls := ls) (rest := [.int 0, .ref (aa 83)]) hown [] _ [] htab (fun z hz => by cases hz) (by decide) (by decide) (ab_w hts2 cn_w4.2.2 rfl) (va_Nw.use (cn_B_tab _ (List.mem_of_getElem? (i := 3) rfl)) (hEX.2.2 _ (List.mem_of_getElem? (i := 3) rfl))) (by rw [e1]; exact hce) hcv hcl kk T' rfl X'
    exact ⟨t2, st.trans a2, b2⟩
set_option maxHeartbeats 1000000 in
theorem cn_hlp_ret {l : Launch} {D : va_G} {cy : Nat → ClassId} {aa : Nat → Nat} {zv : Value} {base d : Nat} {ro : ab_E} (haa : ∀ x, x < 1000 → aa x = base + x) (hdd : d ≤ 40) {mi mi1 : Nat → Nat → Int32} {ml ml1 : Nat → Nat → Int64} {sz : Nat} {x v : Int32} (hC : ab_Ct l D cy aa zv base ro ab_am d 133 [.ref 0, .int x] (ab_G mi ml) (some (.int v)) (ab_G mi1 ml1)) :
    Met l yL_count cn_ws cn_rm (va_Pc [.ref (aa 0), .int x, .ref (aa 83)] (cn_P D cy aa zv base ro (ab_G mi ml) sz)) (cn_QH D cy aa (ab_G mi ml) sz 0 (ab_G mi1 (ab_ul ml1 83 0 v.toInt64))) 1 6 (va_A (ab_ws cy aa (ab_G mi ml)) sz) := by
  refine cn_met (vx_ofWH (cc := cL_count) (maxL := 4) (ret := some .int) (hh := [(0, 9, 12, 13)]) (by decide +kernel) rfl ?_)
  intro p e s m args below meth c s₁ B hml hv
  obtain ⟨rfl, ⟨hsz, hP, hK, hD0, hE, hbs⟩, hEX⟩ := hv
  have hz : zv.category = 1 := hE.2.2.2.2.2.2
  have hts := atoms_spec (ws := cn_ws) B.pre
  have hown : s.vm.findClass (ab_own 19) = some m.cls := findClass_of_methodNamed B.named
  subst hsz
  have hts2 : ∀ w ∈ ab_big, w.before #[Value.ref (aa 0), .int x, .ref (aa 83)] s = true := fun w hw => hts w (List.mem_cons_of_mem _ hw)
  have hA : ∀ q : Nat, s.heap.size ≤ q → va_A (ab_ws cy aa (ab_G mi ml)) s.heap.size q := fun q h => Or.inr h
  have C0 : ab_Cx p (headSpec cn_ws cn_rm).room s m #[Value.ref (aa 0), .int x, .ref (aa 83)] meth c 19 false cL_count 4 D cy aa zv base ro (va_A (ab_ws cy aa (ab_G mi ml)) s.heap.size) 0 0 0 0 s.heap.size (ab_G mi ml).1.length :=
    ⟨B.exec, B.bytes, hml, hown, hts2, hK, hE, hA, (fun h => by cases h), (by decide), (by decide), (by decide), (by decide), haa, fun h => absurd h (Nat.lt_irrefl 0)⟩
  have hent := ab_ent_lh (aa := aa) (zv := zv) hz [.ref 0, .int x, .ref 83] (n := 4) (Nat.le_of_ble_eq_true rfl)
  have hS : ab_St 4 D cy aa zv s.heap.size (ab_G mi ml).1.length (va_A (ab_ws cy aa (ab_G mi ml)) s.heap.size) s (ab_ent 4 [.ref 0, .int x, .ref 83]) (ab_G mi ml) s.heap [] _ := ⟨hent, rfl, hP, hD0.self, va_S.rf, rfl⟩
  rw [lg_entry_eq]
  have hrun : ab_W (fun k as g r g' => k = 133 ∧ as = [.ref 0, .int x] ∧ g = ab_G mi ml ∧ r = some (.int v) ∧ g' = ab_G mi1 ml1) ro 0 0 (ab_lk2 pl_L_count) (fun r g => r = some (.int 0) ∧ g = ab_G mi1 (ab_ul ml1 83 0 v.toInt64)) (0, ab_ent 4 [.ref 0, .int x, .ref 83], [], 0, 0, ab_G mi ml) := by
    refine ab_wc 5 (c := 133) (as := [.ref 0, .int x]) (pc := 7) (ll := [some (.ref 0), some (.int x), some (.ref 83), none]) (st := [.int 0, .ref 83]) (c1 := 0) (s1 := 0) (g := ab_G mi ml) rfl ⟨trivial, trivial, trivial, trivial, trivial⟩ ⟨rfl, rfl, rfl, rfl, rfl⟩ ?_
    exact ab_wr 5 (r := some (.int 0)) (g := ab_G mi1 (ab_ul ml1 83 0 v.toInt64)) rfl ⟨trivial, (by unfold vp_in; decide), trivial, trivial, trivial⟩ ⟨rfl, rfl⟩
  obtain ⟨n, hn⟩ := hrun
  have hfin := ab_run_ok (p := p) (l := l) (e := e) (m := m) (below := below) (meth := meth) (c := c) (rt := some .int) (am := ab_am) (Q := vx_MQ below (cn_QH D cy aa (ab_G mi ml) s.heap.size 0 (ab_G mi1 (ab_ul ml1 83 0 v.toInt64))) (fun _ _ _ => False) #[Value.ref (aa 0), .int x, .ref (aa 83)] s 1 6 (va_A (ab_ws cy aa (ab_G mi ml)) s.heap.size)) C0 (d := d) ⟨show d + 2 ≤ 50 by omega, show 40 * (d + 2) ≤ 2000 by omega⟩ (ab_ckl_ok ck_L_count)
    (fun k as g r g' h => by obtain ⟨rfl, rfl, rfl, rfl, rfl⟩ := h; exact hC) (Qr := fun r g => r = some (.int 0) ∧ g = ab_G mi1 (ab_ul ml1 83 0 v.toInt64)) (X := fun _ => False) (fun r2 g2 h2 => ?_) (fun f hf => hf.elim) n _ hn
  · exact hfin s.heap [] _ hS
  · obtain ⟨rfl, rfl⟩ := h2
    intro H locs ls pc c1 s1 hc1 hs1 hd hok hP2 hD2 hS2 hsz2
    refine W.widen (k := 1) (n := 6) (by omega) (by omega) ?_
    exact vx_ret (W.iret B.exec B.bytes B.returns (fun t ht _ => ⟨rfl, by rw [ht]; exact hP2, hD2, hS2.F ht⟩) hS2.2.2 hd B.notSynchronized)
