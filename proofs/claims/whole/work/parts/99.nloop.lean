/-! The law's loop: the helper's call. -/
section CLS
variable {p : Program} {l : Launch} {e : Env} {R : Room} {s : State} {m : MethodId} {args : Array Value} {below : List Frame} {meth : Method} {c : Code} {H : Heap} {locs : List Loc} {cells slots : Nat}
/-- a static call of a method that catches -/
theorem cn_callS {T : State} (X : Stand p l e R s m args below meth c T locs cells slots) (hexec : p.tables.exec = Jvm.exec) {own : String} {index : Nat} {y : MethodName} {bytes : ByteArray} {maxL : Nat} {ret : Option FieldType} {hh : List (Nat × Nat × Nat × Nat)}
    (hown : s.vm.findClass own = some m.cls) (hlink : (Cond.methodLink own index y).before args s = true) (hstat : (Cond.static y).before args s = true) (hinit : (Cond.initialized y.cls).before args s = true)
    (hcode : (Cond.codeWith y bytes maxL ret hh).before args s = true) (hy : y.cls ≠ "java/lang/invoke/MethodHandle" ∧ y.cls ≠ "java/lang/invoke/VarHandle")
    {Wd : Nat} {Pre : Pt → Array Value → Prop} {Post : Pt → Array Value → Option Value → Pt → Prop} (hK : Back l R p e below s args y 3 Wd Pre Post)
    {g : JFrame} (hg : g.method = m) (hsize : g.locals.size = c.maxLocals) {argsL rest : List Value} (hlen : ∀ sig, parseMethodDescriptor y.desc = some sig → argsL.length = sig.parameters.length)
    (hstack : g.stack = argsL.reverse ++ rest) (hW : 2 * g.monitorRoom + (rest.map fun v => v.category).sum ≤ Wd) (hdg : decode c.code g.pc = .ok (.invokestatic index, 3))
    (hpre : ∀ vm₁, s.WarmedH vm₁ → Pre ⟨T.setVm vm₁, locs, cells, slots⟩ argsL.toArray) :
    ∃ (v : Option Value) (vm₁ : Vm) (B : Pt), s.WarmedH vm₁ ∧ Stand p l e R s m args below meth c B.U B.locs B.cells B.slots ∧ Post ⟨T.setVm vm₁, locs, cells, slots⟩ argsL.toArray v B ∧
      ∀ target, Steps p.tables e below (B.U.setTop { g with pc := g.pc + 3, stack := v.toList ++ rest }) target → Steps p.tables e below (T.setTop g) target := by
  obtain ⟨mk, methM, cM, hnamed, hmethM, -, -, -, -, -, -, hsigM⟩ := Cond.codeWith_spec hcode
  have hstatic : methM.isStatic = true := Cond.static_spec hnamed hmethM hstat
  obtain ⟨kP, hkP, -⟩ := className_of_methodNamed hnamed
  have hinitP : kP.init = .initialized := Cond.initialized_spec (findClass_of_methodNamed hnamed) hkP hinit
  obtain ⟨vm₁, X₁, hstep₁⟩ := X.invokestatic hexec hown hlink hnamed hmethM hstatic hkP hinitP hy (g := g) hg (argsL := argsL) (rest := rest) (hlen _ hsigM) hstack hdg
  obtain ⟨v, B, X', hpost, hsteps⟩ := hK m meth c ⟨T.setVm vm₁, locs, cells, slots⟩ { g with stack := rest } (.invokestatic index) mk argsL.toArray X₁ hg hsize hdg hW (X₁.named hnamed) (hpre vm₁ X₁.warmed)
  exact ⟨v, vm₁, B, X₁.warmed, X', hpost, fun target h => hstep₁ _ fun acts => by rw [doInvoke_state]; exact hsteps.trans h⟩
theorem cn_runS {y : MethodName} {bytes cc : ByteArray} {maxL nL mc ms index : Nat} {ret : Option FieldType} {hh : List (Nat × Nat × Nat × Nat)} {ws : List Cond} {rm : Room} {Pc : Array Value → State → Prop} {Qc : Array Value → State → Outcome → State → Prop} {free : Addr → Prop} {own : String} {As rest : List Value} {g : JFrame}
    (hx : p.tables.exec = Jvm.exec) (hb : c.code = cc) (hml : c.maxLocals = nL) (ho : s.vm.findClass own = some m.cls) (hM : Met l y ws rm Pc Qc mc ms free) (hbl : FrameBlind Pc) (hrc : rm.cells = mc) (hrs : rm.slots = ms) (hfr : rm.frames + 1 ≤ R.frames) (hlo : 8 + (maxL + 11) + rm.locals ≤ R.locals)
    (hws : ∀ w ∈ ws, ∀ (a' : Array Value) (U : State), s.WarmedH U.vm → w.before a' U = true) (hcw : Cond.codeWith y bytes maxL ret hh ∈ ws) (hcode : (Cond.codeWith y bytes maxL ret hh).before args s = true) (hini : (Cond.initialized y.cls).before args s = true)
    (hy : y.cls ≠ "java/lang/invoke/MethodHandle" ∧ y.cls ≠ "java/lang/invoke/VarHandle") (hl : (Cond.methodLink own index y).before args s = true) (hst : (Cond.static y).before args s = true) (hg : g.method = m) (hlen : ∀ sig, parseMethodDescriptor y.desc = some sig → As.length = sig.parameters.length)
    (hsize : g.locals.size = nL) (hstack : g.stack = As.reverse ++ rest) (hW : 2 * g.monitorRoom + (rest.map fun v => v.category).sum ≤ 8) (hdg : decode cc g.pc = .ok (.invokestatic index, 3)) (hf : cells + mc ≤ R.cells ∧ slots + ms ≤ R.slots) (hPc : ∀ U : State, U.heap = H → s.WarmedH U.vm → Pc As.toArray U) :
    va_Run p l e R s m args below meth c H locs cells slots mc ms g rest (Qc As.toArray) free := by
  have hK : Back l R p e below s args y 3 8 (PreOf R mc ms Pc) (PostOf Qc mc ms free) := va_backW (bytes := bytes) (maxL := maxL) (ret := ret) (hh := hh) hM hbl hrc hrs hfr hlo hws hcw (fun a' U hW => word_at hW (Or.inl (by first | rfl | simp [Cond.onTables, Cond.keeps, Cond.steady])) hini)
  intro T hT X
  obtain ⟨v, vm₁, ⟨U', l2, c2, s2⟩, hW₁, X', ⟨g', mk, t, Lc, e1, e2, hq, h1, hL, h2, h3⟩, st⟩ := cn_callS X hx (bytes := bytes) (maxL := maxL) (ret := ret) (hh := hh) ho hl hst hini hcode hy hK hg (hsize.trans hml.symm) (argsL := As) (rest := rest) hlen hstack hW (by rw [hb]; exact hdg)
    (fun vm₁ hW₁ => ⟨hf.1, hf.2, hPc (T.setVm vm₁) hT hW₁⟩)
  dsimp only [Pt.U, Pt.locs, Pt.cells, Pt.slots] at X' e1 e2 h1 h2 h3 st
  subst h1; subst h2; subst h3
  exact ⟨v, (T.setVm vm₁).calling g' mk As.toArray, t, U', Lc, hT, X', hL, e1, e2, hq, st⟩
end CLS
theorem cn_par : ∀ sig, parseMethodDescriptor yL_count.desc = some sig → 3 = sig.parameters.length := by
  have h : (parseMethodDescriptor yL_count.desc).map (fun d => d.parameters.length) = some 3 := by decide +kernel
  intro sig q
  rw [q] at h
  exact (Option.some.inj h).symm
theorem cn_nm : yL_count.cls ≠ "java/lang/invoke/MethodHandle" ∧ yL_count.cls ≠ "java/lang/invoke/VarHandle" := by decide +kernel
set_option maxHeartbeats 4000000 in
theorem law_loop {p : Program} {e : Env} {s : State} {m : MethodId} {below : List Frame} {meth : Method} {c : Code} {l : Launch} (hl : l.stackTraces = false) {b L : Nat} {xs : Nat → Int32} (hL : L ≤ 3584) (C0 : lw_At p s m meth c b L xs)
    {D : va_G} {cy : Nat → ClassId} {aa : Nat → Nat} {zv : Value} (hK : va_K D ab_cl (ab_tys cy) s) (hE : ab_Env (ab_ro L xs) aa zv (fun q => s.heap.size ≤ q) s s.heap) (hEX : cn_EX (fun q => s.heap.size ≤ q) s s.heap) (haa : ∀ x, x < 1000 → aa x = s.heap.size + x)
    {Rel : (Nat → Nat → Int32) → (Nat → Nat → Int64) → Prop} (hSt : lw_Steps Rel) :
    ∀ (n j : Nat), j ≤ L → L - j < n → ∀ (mi : Nat → Nat → Int32) (ml : Nat → Nat → Int64), Rel mi ml → ∀ (H : Heap) (locs : List Loc) (ls : Array Slot) (cells slots : Nat), cells + (L - j) ≤ 4000 → slots + 6 * (L - j) ≤ 40000 → ab_St 7 D cy aa zv H.size 84 (fun q => s.heap.size ≤ q) s (lw_ll (nI j) none none) (ab_G mi ml) H locs ls →
      W p l e room_1 s m #[Value.ref b] below meth c H locs cells slots (lw_Z below #[Value.ref b] s) (F0 m 23 ls []) := by
  obtain ⟨hx, hb, hr, hml, hown, hts, hX, hbl, hlocks, hgv⟩ := id C0
  have hz : zv.category = 1 := hE.2.2.2.2.2.2
  have hts2 : ∀ w ∈ ab_big, w.before #[Value.ref b] s = true := fun w hw => hts w (List.mem_filter.mp hw).1
  have hA : ∀ q : Nat, s.heap.size ≤ q → (fun q : Nat => s.heap.size ≤ q) q := fun _ h => h
  -- the frame's facts, at any room that is left
  have hCx : ∀ (h0 cells slots : Nat), cells ≤ 601024 → slots ≤ 7293034 → ab_Cx p room_1 s m #[Value.ref b] meth c 19 false cL_law 7 D cy aa zv s.heap.size (ab_ro L xs) (fun q => s.heap.size ≤ q) 0 0 cells slots h0 84 := fun h0 cells slots h1 h2 =>
    ⟨hx, hb, hml, hown, hts2, hK, hE, hA, (fun h => by cases h), (by decide), (by decide), h1, h2, haa, fun h => absurd h (Nat.lt_irrefl 0)⟩
  have hcall : ∀ k as g r g', ab_sem (ab_ro L xs) ab_mt 40 k as g r g' → ab_Ct l D cy aa zv s.heap.size (ab_ro L xs) ab_am 40 k as g r g' := fun k as g r g' h => ab_sem_ok haa ab_mt_ok 40 k as g r g' h
  have hroom : 40 + 2 ≤ room_1.frames ∧ 40 * (40 + 2) ≤ room_1.locals := ⟨by decide, by decide⟩
  -- an end with 1
  have hKR : ∀ (h0 cells slots : Nat), cells ≤ 601024 → slots ≤ 7293034 → ∀ (r : Option Value) (g : ab_S), r = some (.int 1) → ab_Kt p l e room_1 s m #[Value.ref b] below meth c (lw_Z below #[Value.ref b] s) cL_law (some .boolean) 7 D cy aa zv h0 84 (fun q => s.heap.size ≤ q) 0 0 cells slots (.inr (r, g)) := by
    intro h0 cells slots h1 h2 r g hrr
    subst hrr
    intro H locs ls pc c1 s1 hc1 hs1 hd hok hP2 hD2 hS2 hsz2
    refine va_forget hS2.2.2 ?_
    refine W.widen (k := 601024) (n := 7293034) (by omega) (by omega) ?_
    exact lw_ret hx hb hr hlocks hd
  intro n
  induction n with
  | zero => intro j _ h; omega
  | succ n ih =>
    intro j hj hn mi ml hRel H locs ls cells slots hcells hslots hS
    -- from 1304 back to the head
    have hback : ∀ (f : ab_F), lw_End Rel L j f → ∀ (cells slots h0 : Nat), cells + (L - (j + 7)) ≤ 4000 → slots + 6 * (L - (j + 7)) ≤ 40000 → ab_Kt p l e room_1 s m #[Value.ref b] below meth c (lw_Z below #[Value.ref b] s) cL_law (some .boolean) 7 D cy aa zv h0 84 (fun q => s.heap.size ≤ q) 0 0 cells slots (.inl f) := by
      intro f hf cells slots h0 hc1 hs1
      obtain ⟨mi, ml, o5, o6, rfl, hRel, hj7⟩ := hf
      intro H locs ls hS
      have hS0 : ab_St 7 D cy aa zv h0 84 (fun q => s.heap.size ≤ q) s (lw_ll (nI j) none none) (ab_G mi ml) H locs ls := hS.drop rfl (fun i v hi => by
        match i, hi with
        | 0, hi => exact hi
        | 1, hi => exact hi
        | 2, hi => exact hi
        | 3, hi => exact hi
        | 4, hi => exact hi
        | 5, hi => cases hi
        | 6, hi => cases hi
        | k + 7, hi => cases hi)
      obtain ⟨k, hk⟩ := vl_1304 (call := ab_sem (ab_ro L xs) ab_mt 40) (L := L) (xs := xs) (Q := fun r _ => r = some (.int 1)) (X := fun f => f = (23, lw_ll (nI j + 7) none none, [], 0, 0, ab_G mi ml)) (nI j) mi ml rfl
      have hfin := ab_run_ok (p := p) (l := l) (e := e) (below := below) (Q := lw_Z below #[Value.ref b] s) (rt := some .boolean) (hCx h0 cells slots (by omega) (by omega)) (d := 40) hroom (ab_ckl_ok ck_L_law) hcall (hKR h0 cells slots (by omega) (by omega)) (fun f hf => ?_) k _ hk
      · exact hfin H locs ls hS0
      · subst hf
        intro H2 locs2 ls2 hS2
        have e7 : nI j + 7 = nI (j + 7) := nI_add j 7
        rw [e7] at hS2
        refine ih (j + 7) hj7 (by omega) mi ml hRel H2 locs2 ls2 (cells + 0) (slots + 0) (by omega) (by omega) (hS2.base (by show H2.size + 84 = H2.size + 84; rfl))
    obtain ⟨⟨k, hk⟩, r, mi', ml', hH, hAf⟩ := hSt L xs hL j mi ml hj hRel
    have hfin := ab_run_ok (p := p) (l := l) (e := e) (below := below) (Q := lw_Z below #[Value.ref b] s) (rt := some .boolean) (hCx H.size cells slots (by omega) (by omega)) (d := 40) hroom (ab_ckl_ok ck_L_law) hcall (hKR H.size cells slots (by omega) (by omega)) (fun f hf => ?_) k _ hk
    · exact hfin H locs ls hS
    · rcases hf with hf | ⟨mi2, ml2, rfl, hRel2, hj7⟩
      · exact hback f hf cells slots H.size (by omega) (by omega)
      · -- the helper
        intro H2 locs2 ls2 hS2
        obtain ⟨-, r2, mi3, ml3, hH2, hAf2⟩ := hSt L xs hL j mi2 ml2 hj hRel2
        have C1 := hCx H.size cells slots (by omega) (by omega)
        have hMet : Met l yL_count cn_ws cn_rm (va_Pc [.ref (aa 0), .int (xs (j + 1)), .ref (aa 83)] (cn_P D cy aa zv s.heap.size (ab_ro L xs) (ab_G mi2 ml2) H2.size)) (cn_QH D cy aa (ab_G mi2 ml2) H2.size r2 (ab_G mi3 ml3)) 1 6 (va_A (ab_ws cy aa (ab_G mi2 ml2)) H2.size) := by
          rcases hH2 with ⟨hx9, rfl, rfl, rfl⟩ | ⟨v, ml1, hsem, rfl, rfl⟩
          · exact cn_hlp_thr hl hx9
          · exact cn_hlp_ret haa (d := 40) (Nat.le_refl _) (hcall _ _ _ _ _ hsem)
        have hgood : GoodIn ab_big cn_ws := ab_big_good (fun w hw => (List.mem_cons.mp hw).elim (fun q => by rw [q]; exact ab_big_of cn_hw.2.2.2 rfl) id)
        have hAs := ab_Asub (cy := cy) (aa := aa) hA hS2.2.2.2.1 hS2.2.2.2.2.1
        have hr2 : va_Run p l e room_1 s m #[Value.ref b] below meth c H2 locs2 (cells + 0) (slots + 0) 1 6 (F0 m 1256 ls2 [.ref (aa 83), .int (xs (j + 1)), .ref (aa 0)]) [] (cn_QH D cy aa (ab_G mi2 ml2) H2.size r2 (ab_G mi3 ml3) [Value.ref (aa 0), .int (xs (j + 1)), .ref (aa 83)].toArray) (va_A (ab_ws cy aa (ab_G mi2 ml2)) H2.size) :=
          cn_runS (own := ab_own 19) (index := 148) (bytes := cL_count) (maxL := 4) (ret := some .int) (hh := [(0, 9, 12, 13)]) (nL := 7) (cc := cL_law) hx hb hml hown hMet cn_blind rfl rfl (by decide) (by decide) (pay_in hts2 hgood) List.mem_cons_self (ab_w hts2 cn_hw.2.2.2 rfl) (ab_w hts2 cn_hw.2.2.1 rfl) cn_nm (ab_w hts2 cn_hw.1 rfl) (ab_w hts2 cn_hw.2.1 rfl) rfl cn_par (hS2.1.1.trans hS2.2.1) rfl (lv_room (Nat.le_of_ble_eq_true rfl)) dlw_1256 ⟨by show cells + 0 + 1 ≤ 601024; omega, by show slots + 0 + 6 ≤ 7293034; omega⟩
            (fun U hU hW => ⟨rfl, ab_pre C1 hS2 (fun h => absurd h (Nat.lt_irrefl 0)) hU hW, cn_EX.go hEX hW hS2.2.2.2.2.1 hU hAs⟩)
        intro T hT X
        obtain ⟨v, st₀, t, T', Lc, h0, X', hLc, e1, e2, ⟨hv, h1, h2, ⟨hz2, hk2⟩⟩, st⟩ := hr2 T hT X
        cases hv
        rw [h0] at hz2 hk2
        have hS' := hS2.2.2.2.2.1
        have hS3 : ab_St 7 D cy aa zv T'.heap.size 84 (fun q => s.heap.size ≤ q) s (lw_ll (nI j) none none) (ab_G mi3 ml3) T'.heap (locs2 ++ Lc) ls2 := ⟨hS2.1, hS2.2.1, by rw [e1]; exact h1, h2.weaken (fun _ q _ hq => hAs _ hq), ⟨Nat.le_trans hS'.1 (by rw [e1]; exact hz2), fun q q1 q2 => by rw [e1, hk2 q (Nat.lt_of_lt_of_le q1 hS'.1) (fun z => q2 (hAs q z))]; exact hS'.2.1 q q1 q2, fun q hq => by
          rcases List.mem_append.mp hq with h | h
          · exact hS'.2.2 q h
          · exact hAs _ (hLc q h)⟩, rfl⟩
        obtain ⟨k3, hk3⟩ := hAf2 hj7
        have hfin2 := ab_run_ok (p := p) (l := l) (e := e) (below := below) (Q := lw_Z below #[Value.ref b] s) (rt := some .boolean) (hCx T'.heap.size (cells + 1) (slots + 6) (by omega) (by omega)) (d := 40) hroom (ab_ckl_ok ck_L_law) hcall (hKR T'.heap.size (cells + 1) (slots + 6) (by omega) (by omega)) (fun f hf => hback f hf (cells + 1) (slots + 6) T'.heap.size (by omega) (by omega)) k3 _ hk3
        obtain ⟨t2, a2, b2⟩ := hfin2 T'.heap (locs2 ++ Lc) ls2 hS3 T' rfl X'
        exact ⟨t2, st t2 a2, b2⟩
