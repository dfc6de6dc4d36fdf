/-! count: the one method that throws, and the law's helper that catches it. -/
def pl_L_count : List (Nat × List (Nat × ab_I)) := [
  (100000, [(0, (.aload_n 2, 1, 2, 0, .null, [], 0)),
    (1, (.iconst 0, 1, 0, 0, .int 0, [], 0)),
    (2, (.aload_n 0, 1, 0, 0, .null, [], 0)),
    (3, (.iload_n 1, 1, 1, 0, .null, [], 0)),
    (4, (.invokevirtual 7, 3, 133, 2, .ref 11, [], 175)),
    (7, (.i2l, 1, 0, 0, .null, [], 0)),
    (8, (.lastore, 1, 0, 0, .null, [], 0)),
    (9, (.goto 6, 3, 15, 0, .null, [], 0)),
    (12, (.astore_n 3, 1, 3, 0, .null, [], 0)),
    (13, (.iconst 1, 1, 0, 0, .int 1, [], 0)),
    (14, (.ireturn, 1, 0, 0, .null, [], 0)),
    (15, (.iconst 0, 1, 0, 0, .int 0, [], 0)),
    (16, (.ireturn, 1, 0, 0, .null, [], 0))])]
theorem ck_L_count : ab_ckl ab_am 19 false cL_count (some .int) pl_L_count = true := by decide +kernel
abbrev cn_X : String := "java/util/NoSuchElementException"
abbrev cn_N : List String := ["java/lang/RuntimeException", "java/lang/Exception"]
def cn_B : List Cond := [.declares ⟨"java/lang/RuntimeException", "<init>", "()V"⟩, .declares ⟨"java/lang/Exception", "<init>", "()V"⟩, .declares ⟨"java/lang/Throwable", "<init>", "()V"⟩, .castable cn_X cn_X]
def cn_EX (A : Nat → Prop) (U : State) (H : Heap) : Prop := vx_Zq Bundle.tN "UNASSIGNED_STACK" Bundle.steD A U H ∧ vx_Zq Bundle.tN "SUPPRESSED_SENTINEL" Bundle.listD A U H ∧ ∀ w ∈ cn_B, va_Nw w U
theorem cn_B_warm {s U : State} (hW : s.WarmedH U.vm) (h : ∀ w ∈ cn_B, va_Nw w s) : ∀ w ∈ cn_B, va_Nw w U :=
  List.forall_mem_cons.mpr ⟨va_Nw.warmD hW (h _ (List.mem_of_getElem? (i := 0) rfl)), List.forall_mem_cons.mpr ⟨va_Nw.warmD hW (h _ (List.mem_of_getElem? (i := 1) rfl)), List.forall_mem_cons.mpr ⟨va_Nw.warmD hW (h _ (List.mem_of_getElem? (i := 2) rfl)), List.forall_mem_cons.mpr ⟨va_Nw.warmC hW (h _ (List.mem_of_getElem? (i := 3) rfl)), List.forall_mem_nil _⟩⟩⟩⟩
theorem cn_B_tab : ∀ w ∈ cn_B, w.onTables = true := by decide +kernel
theorem cn_EX.go {A A1 : Nat → Prop} {s U : State} {H : Heap} {locs : List Loc} (h : cn_EX A s s.heap) (hW : s.WarmedH U.vm) (hS : va_S A s.heap H locs) (hU : U.heap = H) (hA : ∀ q, A1 q → A q) : cn_EX A1 U U.heap := by
  obtain ⟨h1, h2, h3⟩ := h
  have hk : ∀ a : Nat, a < s.heap.size → ¬ A a → U.heap[a]? = s.heap[a]? := fun a ha hn => by rw [hU]; exact hS.2.1 a ha hn
  exact ⟨((h1.kept hk).moved hW.alike).narrow hA, ((h2.kept hk).moved hW.alike).narrow hA, cn_B_warm hW h3⟩
theorem cn_EX.same {A : Nat → Prop} {s U : State} {H : Heap} (h : cn_EX A s H) (hv : U.vm = s.vm) : cn_EX A U H := by
  obtain ⟨h1, h2, h3⟩ := h
  have ha : s.vm.Alike U.vm := by rw [hv]; exact Vm.Alike.refl _
  exact ⟨h1.moved ha, h2.moved ha, fun w hw => va_Nw.same (cn_B_tab w hw) hv.symm (h3 w hw)⟩
def cn_XC (E : String) (st t : State) : Prop := E = cn_X ∧ st.heap.size ≤ t.heap.size ∧ ∀ q : Nat, q < st.heap.size → t.heap[q]? = st.heap[q]?
theorem dcn_0 : decode cX11_count 0 = .ok (.iload_n 1, 1) := by decide +kernel
theorem dcn_154 : decode cX11_count 154 = .ok (.new 358, 3) := by decide +kernel
theorem dcn_157 : decode cX11_count 157 = .ok (.dup, 1) := by decide +kernel
theorem dcn_158 : decode cX11_count 158 = .ok (.invokespecial 360, 3) := by decide +kernel
theorem dcn_161 : decode cX11_count 161 = .ok (.athrow, 1) := by decide +kernel
theorem dcn_1 : decode cX11_count 1 = .ok (.tableswitch 153 0 9 #[55, 63, 71, 79, 94, 106, 114, 129, 137, 145], 55) := by decide +kernel
theorem cn_w1 : ∀ w ∈ (vx_at0 (ab_own 11) 360 cn_X cn_N).filter goodWord, w ∈ lw_tbl := by decide +kernel
theorem cn_w2 : ∀ w ∈ Cond.classLink (ab_own 11) 358 cn_X :: Cond.initialized cn_X :: vx_at0 (ab_own 11) 360 cn_X cn_N, vx_ot w = true := by decide +kernel
theorem cn_w3 : ∀ w ∈ (vx_at0 (ab_own 11) 360 cn_X cn_N).filter (fun w => !goodWord w), w ∈ cn_B := by decide +kernel
theorem cn_w4 : Cond.classLink (ab_own 11) 358 cn_X ∈ lw_tbl ∧ Cond.initialized cn_X ∈ lw_tbl ∧ Cond.classLink (ab_own 19) 13 cn_X ∈ lw_tbl := by decide +kernel
theorem cn_w5 : ∀ w ∈ cn_B, w ∈ lw_tbl := by decide +kernel
def cn_y : MethodName := yX11_count
def cn_P (D : va_G) (cy : Nat → ClassId) (aa : Nat → Nat) (zv : Value) (base : Nat) (ro : ab_E) (g : ab_S) (sz : Nat) (U : State) : Prop := ab_PU D cy aa zv base ro (0, 0) g sz U ∧ cn_EX (va_A (ab_ws cy aa g) sz) U U.heap
theorem cn_blind {D : va_G} {cy : Nat → ClassId} {aa : Nat → Nat} {zv : Value} {base : Nat} {ro : ab_E} {g : ab_S} {sz : Nat} {av : List Value} : FrameBlind (va_Pc av (cn_P D cy aa zv base ro g sz)) := by
  intro a U gf mk h
  obtain ⟨h0, h1, h2⟩ := h
  exact ⟨h0, (ab_blind (am := (0, 0)) a U gf mk ⟨h0, h1⟩).2, cn_EX.same (s := U) (U := U.calling gf mk a) h2 rfl⟩
set_option maxHeartbeats 1000000 in
/-- count of another what throws -/
theorem cn_thr {l : Launch} (hl : l.stackTraces = false) {D : va_G} {cy : Nat → ClassId} {aa : Nat → Nat} {zv : Value} {base : Nat} {ro : ab_E} {g : ab_S} {sz : Nat} {x : Int32} (hx : x.toInt < 0 ∨ 9 < x.toInt) :
    vx_Met l yX11_count (Cond.code yX11_count cX11_count 2 (some .int) :: ab_big) { frames := 8, cells := 1, slots := 6, locals := 320 } (va_Pc [.ref (aa 0), .int x] (cn_P D cy aa zv base ro g sz)) (fun _ _ _ _ => False) cn_XC 1 6 (va_A (ab_ws cy aa g) sz) := by
  refine vx_ofW (cc := cX11_count) (maxL := 2) (ret := some .int) (by decide +kernel) rfl ?_
  intro p e s m args below meth c s₁ B hml htab hv
  obtain ⟨rfl, ⟨hsz, hP, hK, hD0, hE, hbs⟩, hU, hN, hB⟩ := hv
  have hts := atoms_spec (ws := Cond.code yX11_count cX11_count 2 (some .int) :: ab_big) B.pre
  have hown : s.vm.findClass (ab_own 11) = some m.cls := findClass_of_methodNamed B.named
  subst hsz
  have hts2 : ∀ w ∈ ab_big, w.before #[Value.ref (aa 0), .int x] s = true := fun w hw => hts w (List.mem_cons_of_mem _ hw)
  have hl2 := lv_entry ([.ref (aa 0), .int x]) (n := 2) (Nat.le_of_ble_eq_true rfl)
  rw [lg_entry_eq]
  generalize (lg_sl ([.ref (aa 0), .int x]) ++ List.replicate (2 - (lg_sl ([.ref (aa 0), .int x])).length) Slot.unset).toArray = ls at hl2 ⊢
  have hl3 : lv_has ls 2 [(0, .ref (aa 0)), (1, .int x)] := hl2
  refine lv_iload_n B.exec B.bytes dcn_0 rfl (lv_at hl3 1 rfl) ?_
  refine lv_tableOut (tgt := 154) B.exec B.bytes dcn_1 hx (by decide) ?_
  have hat : ∀ w ∈ vx_at0 (ab_own 11) 360 cn_X cn_N, w.before #[Value.ref (aa 0), .int x] s = true := vx_hat (fun w hw => ab_w hts2 (cn_w1 w hw) (List.mem_filter.mp hw).2) cn_w3 (fun w hw => va_Nw.use (cn_B_tab w hw) (hB w hw))
  exact vx_throw0 (own := ab_own 11) (cls := cn_X) (names := cn_N) (ik := 358) (ic := 360) B.exec B.bytes hl hown (by decide +kernel) (by decide +kernel) (ab_w hts2 cn_w4.1 rfl) (ab_w hts2 cn_w4.2.1 rfl) hat cn_w2 hU hN va_S.rf (hl3.1.trans hml.symm) dcn_154 dcn_157 dcn_158 dcn_161 (fun x hx => (htab x hx).elim) (by decide) (by decide) (Nat.le_refl _) (Nat.le_refl _) B.notSynchronized (fun t _ h1 h2 => ⟨rfl, h1, h2⟩) (fun z hz => by cases hz) (Nat.le_refl _) (Nat.le_refl _)
