/-! The start, and the claim. -/
theorem z6 (p : Nat) : b6 0 p = false := by
  show (0 : BitVec 64).getLsbD p = false
  simp
theorem z3 (p : Nat) : b3 0 p = false := by
  show (0 : BitVec 32).getLsbD p = false
  simp
theorem gz24 : ∀ j, ab_gi 24 j = 0 := fun _ => rfl
theorem gz37 : ∀ j, ab_gi 37 j = 0 := fun _ => rfl
theorem gz60 : ∀ j, ab_gi 60 j = 0 := fun _ => rfl
theorem gz78 : ∀ j, ab_gi 78 j = 0 := fun _ => rfl
theorem gz31 : ∀ j, ab_gl 31 j = 0 := fun _ => rfl
theorem gz32 : ∀ j, ab_gl 32 j = 0 := fun _ => rfl
theorem gzW : ∀ i, i < 22 → ab_gl 45 i = wds.getD i 0 := by decide +kernel
set_option maxRecDepth 20000 in
/-- between two calls: at the start too -/
theorem rel_start : Rel ab_gi ab_gl := by
  have e93 : ab_gi 9 3 = 0 := rfl
  have e125 : ab_gi 12 5 = 0 := rfl
  have e182 : ab_gi 18 2 = 0 := rfl
  have e186 : ab_gi 18 6 = 0 := rfl
  have e22 : ab_gi 2 2 = 0 := rfl
  have nLe : nL ab_gi = 0 := by unfold nL; rw [e93]; rfl
  have nWe : nW ab_gi = 0 := by unfold nW; rw [e125]; rfl
  have nCe : nC ab_gi = 0 := by unfold nC; rw [e182]; rfl
  have nRe : nR ab_gi = 0 := by unfold nR; rw [e186]; rfl
  have nTe : nT ab_gi = 0 := by unfold nT; rw [e22]; rfl
  refine ⟨?_, ?_, fun _ => ⟨?_, ?_⟩⟩
  · unfold okT
    rw [nLe, nWe, nCe, nRe, nTe]
    exact ⟨⟨rfl, by decide⟩, ⟨rfl, by decide⟩, ⟨rfl, by decide⟩, ⟨rfl, by decide⟩, fun w hw => absurd hw (Nat.not_lt_zero w), fun w hw => absurd hw (Nat.not_lt_zero w), fun w hw => absurd hw (Nat.not_lt_zero w), fun p _ => ⟨0, by decide, gz24 p⟩, fun h _ i _ => by rw [gz37]; exact z3 i, ⟨0, by decide, rfl, Or.inl rfl⟩, rfl, by decide, fun w hw => absurd hw (Nat.not_lt_zero w)⟩
  · unfold okM
    rw [nLe, nWe, nCe, nRe, nTe]
    exact ⟨⟨rfl, rfl, rfl, rfl, rfl, rfl, rfl⟩, fun w hw => absurd hw (Nat.not_lt_zero w), fun w hw => absurd hw (Nat.not_lt_zero w), fun w hw => absurd hw (Nat.not_lt_zero w), fun p _ => (gz60 p).trans (gz24 p).symm, fun w hw => absurd hw (Nat.not_lt_zero w), fun h _ g _ => by rw [gz78, gz37, z3]; rfl, fun w hw => absurd hw (Nat.not_lt_zero w), fun w hw => absurd hw (Nat.not_lt_zero w), gzW⟩
  · unfold gP nG
    rw [nWe]
    refine ⟨⟨rfl, fun g hg => absurd hg (Nat.not_lt_zero g), fun g hg => absurd hg (Nat.not_lt_zero g), fun g hg => absurd hg (Nat.not_lt_zero g)⟩, fun g hg => absurd hg (Nat.not_lt_zero g), fun g hg => absurd hg (Nat.not_lt_zero g)⟩
  · intro s _
    rw [gz31, gz32, z6]
    exact ⟨fun q => (by cases q), fun _ => rfl⟩
theorem ex_start {s : State} {b : Nat} (hts : ∀ w ∈ lw_tbl, w.before #[Value.ref b] s = true) (hgv : (Jvm.Cond.and given_1 narrow_1).before #[Value.ref b] s = true) : cn_EX (fun q => s.heap.size ≤ q) s s.heap := by
  have hs := flat_of_before _ hgv
  have hA : ∀ a : Nat, a < s.heap.size → ¬ (fun q : Nat => s.heap.size ≤ q) a := fun a h q => absurd q (Nat.not_le.mpr h)
  exact ⟨vx_Zqof (hts _ (ab_in5 (List.mem_of_getElem? (i := 140) rfl))) (hts _ (ab_in1 (List.mem_of_getElem? (i := 21) rfl))) (hs _ (List.mem_of_getElem? (i := 29) rfl)) hA, vx_Zqof (hts _ (ab_in5 (List.mem_of_getElem? (i := 142) rfl))) (hts _ (ab_in1 (List.mem_of_getElem? (i := 21) rfl))) (hs _ (List.mem_of_getElem? (i := 30) rfl)) hA, fun w hw => va_Nw.of (cn_B_tab w hw) (hts w (cn_w5 w hw))⟩
set_option maxHeartbeats 4000000 in
theorem whole_start {p : Program} {e : Env} {s : State} {m : MethodId} {below : List Frame} {meth : Method} {c : Code} (l : Launch) (hl : l.stackTraces = false) {b L : Nat} {xs : Nat → Int32} (hL : L ≤ 3584) (C0 : lw_At p s m meth c b L xs) :
    W p l e room_1 s m #[Value.ref b] below meth c s.heap [] 0 0 (lw_Z below #[Value.ref b] s) (entryFrame m ([Value.ref b] : List Value).toArray 7) := by
  obtain ⟨hx, hb, hr, hml, hown, hts, hX, hbl, hlocks, hgv⟩ := id C0
  obtain ⟨D, cy, hK⟩ := ab_K_start hts
  obtain ⟨aa, zv, hE, haa, hab⟩ := ab_env_start hL hts hX hbl hgv
  have hEX := ex_start hts hgv
  have hz : zv.category = 1 := hE.2.2.2.2.2.2
  have hts2 : ∀ w ∈ ab_big, w.before #[Value.ref b] s = true := fun w hw => hts w (List.mem_filter.mp hw).1
  have hA : ∀ q : Nat, s.heap.size ≤ q → (fun q : Nat => s.heap.size ≤ q) q := fun _ h => h
  have C1 : ab_Cx p room_1 s m #[Value.ref b] meth c 19 false cL_law 7 D cy aa zv s.heap.size (ab_ro L xs) (fun q => s.heap.size ≤ q) 84 11519 0 0 s.heap.size 0 :=
    ⟨hx, hb, hml, hown, hts2, hK, hE, hA, (fun h => by cases h), (by decide), (by decide), (by decide), (by decide), haa, fun _ => rfl⟩
  have hcall : ∀ k as g r g', ab_sem (ab_ro L xs) ab_mt 40 k as g r g' → ab_Ct l D cy aa zv s.heap.size (ab_ro L xs) ab_am 40 k as g r g' := fun k as g r g' h => ab_sem_ok haa ab_mt_ok 40 k as g r g' h
  have hroom : 40 + 2 ≤ room_1.frames ∧ 40 * (40 + 2) ≤ room_1.locals := ⟨by decide, by decide⟩
  obtain ⟨k, hk⟩ := law_initX (ro := ab_ro L xs) 38 (fun _ _ => False) (X := fun f => f = (23, lw_ll 0 none none, [], 84, 11519, ab_G ab_gi ab_gl)) rfl
  have hfin := ab_run_ok (p := p) (l := l) (e := e) (below := below) (Q := lw_Z below #[Value.ref b] s) (rt := some .boolean) C1 (d := 40) hroom (ab_ckl_ok ck_L_law) hcall (fun r g h => h.elim) (fun f hf => ?_) k _ hk
  · have hent := ab_ent_lh (aa := aa) (zv := zv) hz [.ref 1000220] (n := 7) (Nat.le_of_ble_eq_true rfl)
    have hS : ab_St 7 D cy aa zv s.heap.size 0 (fun q => s.heap.size ≤ q) s (ab_ent 7 [.ref 1000220]) ([], [], gi_0, gl_0) s.heap [] _ := ⟨hent, rfl, (fun k q h => by cases h), ⟨fun i j p q h => (by cases h), fun k q h => (by cases h)⟩, va_S.rf, rfl⟩
    have h9 := hfin s.heap [] _ hS
    simp only [List.map_cons, List.map_nil, ab_tr, hab] at h9
    rw [lg_entry_eq]
    exact h9
  · subst hf
    intro H2 locs2 ls2 hS2
    exact law_loop hl hL C0 hK hE hEX haa lw_all (L + 1) 0 (Nat.zero_le _) (by omega) ab_gi ab_gl rel_start H2 locs2 ls2 (0 + 84) (0 + 11519) (by omega) (by omega) (hS2.base rfl)
set_option maxHeartbeats 4000000 in
theorem lw_walk (l : Launch) (hl : l.stackTraces = false) (b : Addr) (xs : List Int32) : MetFree l x (headSpec (Jvm.Cond.code x code maxLocals ret :: tables_1) room_1) (lw_P b xs) (fun _ _ _ _ _ => True) lw_Q := by
  refine MetFree.of_bodyS (code := code) (maxLocals := maxLocals) (ret := ret) (by decide) ?_ ?_
  · intro args s m h hn
    obtain ⟨meth, c, h1, h2, h3, h4, h5, h6, -, -⟩ := Cond.code_spec hn (atoms_spec (ws := Jvm.Cond.code x code maxLocals ret :: tables_1) h _ List.mem_cons_self)
    exact ⟨meth, c, h1, h2, h3, h4, h5, h6⟩
  · intro p e s m args below meth c s₁ B hml0 hP _
    obtain ⟨rfl, hx, hbd, hgv⟩ := hP
    obtain ⟨scr, harrAt, hlist, hof, hsmall⟩ := hx
    obtain ⟨hcb, hkn, -, -⟩ := State.arrayAt?_spec harrAt
    have hown : s.vm.findClass R_law = some m.cls := findClass_of_methodNamed B.named
    have hts0 : ∀ c ∈ (Jvm.Cond.code x code maxLocals ret :: tables_1), c.before #[Value.ref b] s = true := atoms_spec (ws := Jvm.Cond.code x code maxLocals ret :: tables_1) B.pre
    have hts : ∀ w ∈ lw_tbl, w.before #[Value.ref b] s = true := k2_hts_sels lw_privs (fun w hw => hts0 w (List.mem_cons_of_mem _ hw)) lw_privs_ok
    have hml : c.maxLocals = 7 := B.maxLocals_eq (hts0 _ List.mem_cons_self)
    have X₀ : Stand p l e room_1 s m #[Value.ref b] below meth c s₁ [] 0 0 := Stand.of_body B
    have hh0 : s₁.heap = s.heap := by rw [B.state]; rfl
    have hsz : scr.slots.size = xs.length := by rw [← Array.length_toList, hlist, List.length_map]
    have hval : ∀ j : Nat, j < xs.length → scr.slots[j]? = some (.int (xs.getD j 0)) := fun j hj => by
      rw [← Array.getElem?_toList, hlist]
      simp [hj]
    have hbl : b < s.heap.size := (Array.getElem?_eq_some_iff.mp hcb).1
    have hX : va_X b xs.length (fun j => xs.getD j 0) s s.heap := ⟨scr, hcb, hof, hkn, hsz, hval⟩
    have K : W p l e room_1 s m #[Value.ref b] below meth c s₁.heap [] 0 0 (lw_Z below #[Value.ref b] s) (entryFrame m ([Value.ref b] : List Value).toArray 7) := by
      rw [hh0]
      exact whole_start l hl hbd ⟨B.exec, B.bytes, B.returns, hml, hown, hts, hX, hbl, B.notSynchronized, hgv⟩
    obtain ⟨t, a1, o, b1, b2, b3⟩ := K s₁ rfl X₀
    exact ⟨t, o, a1, b1, b2, b3⟩
theorem lw_pre_spec {args : Array Value} {s : State} (h : (Jvm.Cond.and given_1 narrow_1).before args s = true) (hr : rest_1_c.before args s = true) : ∃ (b : Addr) (xs : List Int32), lw_P b xs args s := by
  have hs := flat_of_before _ h
  have hq := flat_of_before _ hr
  have hc : (Cond.count 1).before args s = true := hs _ (by decide +kernel)
  have harr : (Cond.arrayOf (.arg 0) .int).before args s = true := hs _ (by decide +kernel)
  have hle : (Cond.le (.length (.arg 0)) (.int 3584)).before args s = true := hs _ (by decide +kernel)
  have hlen : (Cond.isInt (.length (.arg 0))).before args s = true := hq _ (by decide +kernel)
  have hall : (Cond.all (.arg 0) (.isInt (.elem (.arg 0) (.index 0)))).before args s = true := hq _ (by decide +kernel)
  obtain ⟨b, xs, hb, hx⟩ := State.ints_of_pre rfl harr hlen hall
  have hsm : xs.length < 2 ^ 31 := hx.choose_spec.2.2.2
  have hev : (Term.length (.arg 0)).eval args s none [] s = some (.int xs.length.toInt32) := hx.length_eval hb
  have hv := Cond.le_ints hev (show (Term.int 3584).eval args s none [] s = some (.int 3584) from rfl)
  have hd : xs.length.toInt32 ≤ 3584 := by
    simpa [Cond.before, Cond.holds, hv] using hle
  have hN : xs.length ≤ 3584 := (Int32.ofNat_le_ofNat hsm (by decide)).mp (show Int32.ofNat xs.length ≤ Int32.ofNat 3584 from hd)
  exact ⟨b, xs, Cond.one_arg hc (show args[0]? = some (.ref b) from hb), hx, hN, h⟩
theorem lw_comes (l : Launch) (hl : l.stackTraces = false) : Comes l x (Jvm.Cond.code x code maxLocals ret :: tables_1) room_1 (fun tb e args s => Calls_1 tb e args s ∧ rest_1 tb e args s ∧ Pre_1 tb e args s)
    (fun _ _ args s o t => lw_Q args s o t) := by
  intro p e ha hc hk s m args below hf hfit hheap happ hpre
  obtain ⟨b, xs, hP⟩ := lw_pre_spec hpre.2.2 hpre.2.1
  obtain ⟨k, o, h1, h2, h3, hQ⟩ := lw_walk l hl b xs p e ha hc hk s m args below hf ((Spec.applies_iff_loose hf).mp happ).1 hP trivial
  exact ⟨k, o, h1, h2, h3, hQ⟩
theorem lw_frame {s t : State} {o : Outcome} {args : Array Value} (h : Framed s o t [] 601024 7293034) :
    Framed s o t (fieldLocs frame_1_writes args s ++ arrayLocs frame_1_arrays args s ++ staticLocs frame_1_statics s) 601024 7293034 := h
theorem lw_limb (L : Cond) (hL : ∀ (args : Array Value) (s t : State), L.after args s (.returned (some (.int 1))) t = true) :
    ArmFor flags0 classFile x code maxLocals ret World_1 tables_1 room_1 Calls_1 rest_1 Pre_1
      (fun tb e a s o t => postC L tb e a s o t ∧ Framed s o t (fieldLocs frame_1_writes a s ++ arrayLocs frame_1_arrays a s ++ staticLocs frame_1_statics s) 601024 7293034) := by
  intro l hfl _ _ p e ha hc hk s m args below hf hfit hheap happ hpre
  have hl : l.stackTraces = false := by unfold Launch.stackTraces; rw [hfl]; decide +kernel
  obtain ⟨k, o, h1, h2, h3, rfl, hF⟩ := lw_comes l hl p e ha hc hk s m args below hf hfit hheap happ hpre
  exact ⟨k, _, h1, h2, h3, hL args s _, lw_frame hF⟩
theorem i_vc : Claimed_1_1 ∧ Claimed_1_2 := ⟨lw_limb limb_1_1 (fun args s t => by simp [limb_1_1, Cond.after, Cond.holds, Cond.value]), lw_limb limb_1_2 (fun args s t => Cond.after_iff.mpr (by
  first | (rw [show limb_1_2 = Cond.eq .result (.int 1) from rfl, Cond.eq_ints (x := 1) (y := 1) rfl rfl]; simp; done) | (simp [limb_1_2, Cond.value, Term.eval]; done)))⟩
