/-! A step of the abstract machine is a step of the JVM. -/
section ABS
variable {p : Program} {l : Launch} {e : Env} {R : Room} {s : State} {m : MethodId} {args : Array Value} {below : List Frame} {meth : Method} {c : Code} {Q : State → Prop}
/-- what holds all along a method's body -/
def ab_Cx (p : Program) (R : Room) (s : State) (m : MethodId) (args : Array Value) (meth : Method) (c : Code) (ow : Nat) (ini : Bool) (cc : ByteArray) (nL : Nat) (D : va_G) (cy : Nat → ClassId) (aa : Nat → Nat) (zv : Value) (base : Nat) (ro : ab_E) (A : Nat → Prop) (mc ms c0 s0 h0 n0 : Nat) : Prop :=
  p.tables.exec = Jvm.exec ∧ c.code = cc ∧ c.maxLocals = nL ∧ s.vm.findClass (ab_own ow) = some m.cls ∧ (∀ w ∈ ab_big, w.before args s = true) ∧ va_K D ab_cl (ab_tys cy) s ∧ ab_Env ro aa zv A s s.heap ∧ (∀ q, s.heap.size ≤ q → A q) ∧ (ini = true → meth.name = "<init>") ∧ 1 ≤ R.frames ∧ 30 ≤ R.locals ∧ c0 + mc ≤ R.cells ∧ s0 + ms ≤ R.slots ∧ (∀ x, x < 1000 → aa x = base + x) ∧ (0 < mc → h0 = base + n0)
/-- the JVM's heap and variables are what the abstract ones say -/
def ab_St (nL : Nat) (D : va_G) (cy : Nat → ClassId) (aa : Nat → Nat) (zv : Value) (h0 n0 : Nat) (A : Nat → Prop) (s : State) (ll : ab_L) (g : ab_S) (H : Heap) (locs : List Loc) (ls : Array Slot) : Prop :=
  ab_lh aa zv ls ll ∧ ll.length = nL ∧ va_P D ab_cl (ab_ws cy aa g) H ∧ va_D A (ab_ws cy aa g) ∧ va_S A s.heap H locs ∧ H.size + n0 = h0 + g.1.length
def ab_rin (r : Option Value) : Instr := match r with
  | none => .return_
  | some (.long _) => .lreturn
  | some _ => .ireturn
def ab_rok (rt : Option FieldType) (r : Option Value) : Prop := match r with
  | none => rt = none
  | some (.long _) => rt = some .long
  | some (.int x) => ∃ ty, rt = some ty ∧ narrow ty (.int x) = .int x
  | _ => False
theorem ab_clat {a : Nat} (h : a < 13) : ab_cl[a]? = some (ab_own a, ab_T a, ab_fn a) := by
  match a, h with
  | 0, _ => rfl
  | 1, _ => rfl
  | 2, _ => rfl
  | 3, _ => rfl
  | 4, _ => rfl
  | 5, _ => rfl
  | 6, _ => rfl
  | 7, _ => rfl
  | 8, _ => rfl
  | 9, _ => rfl
  | 10, _ => rfl
  | 11, _ => rfl
  | 12, _ => rfl
  | n + 13, h => omega
theorem ab_lays {a : Nat} (h : a < 13) : ∀ w ∈ u_ws (ab_own a) (ab_T a) (ab_fn a), w ∈ ab_big := by
  intro w hw
  obtain ⟨k, hk, rfl⟩ := List.mem_map.mp hw
  refine ab_big_of ((ab_clP_ok a h).2.2.1 k (List.mem_range.mp hk)) ?_
  unfold u_lay
  split <;> rfl
theorem ab_tyat {cy : Nat → ClassId} {t : Nat} (h : t < 4) : (ab_tys cy)[t]? = some (cy t, ab_at t) := by
  match t, h with
  | 0, _ => rfl
  | 1, _ => rfl
  | 2, _ => rfl
  | 3, _ => rfl
theorem ab_w {w : Cond} (hts : ∀ w ∈ ab_big, w.before args s = true) (h : w ∈ lw_tbl) (hg : goodWord w = true) : w.before args s = true := hts w (ab_big_of h hg)
theorem ab_sw_t {pc : Nat} {a : Nat} {x : Int32} : ∀ (l : List Int) (lo : Int), -2147483648 ≤ lo → lo + l.length ≤ 2147483648 → (∀ q ∈ l, 0 ≤ (pc : Int) + q) →
    (x.toInt < lo ∨ lo + l.length ≤ x.toInt) ∧ ab_sw x (ab_tsl pc lo l) a = a ∨ ∃ off : Int, ¬ x.toInt < lo ∧ x.toInt < lo + l.length ∧ l[(x.toInt - lo).toNat]? = some off ∧ (pc : Int) + off = (ab_sw x (ab_tsl pc lo l) a : Int) := by
  intro l
  induction l with
  | nil => intro lo h1 h2 h3; exact Or.inl ⟨by simp; omega, rfl⟩
  | cons q r ih =>
    intro lo h1 h2 h3
    simp only [List.length_cons, Int.natCast_add, Int.cast_ofNat_Int] at h2
    have hlo : (Int32.ofInt lo).toInt = lo := Int32.toInt_ofInt_of_le (by simpa using h1) (by simp at h2 ⊢; omega)
    have e : ab_sw x (ab_tsl pc lo (q :: r)) a = if x = Int32.ofInt lo then ((pc : Int) + q).toNat else ab_sw x (ab_tsl pc (lo + 1) r) a := rfl
    by_cases hx : x = Int32.ofInt lo
    · right
      have hxi : x.toInt = lo := by rw [hx]; exact hlo
      refine ⟨q, by omega, by simp; omega, by rw [hxi]; simp, ?_⟩
      rw [e, if_pos hx]
      have := h3 q List.mem_cons_self
      omega
    · have hxi : x.toInt ≠ lo := fun h => hx (Int32.toInt_inj.mp (by rw [hlo]; exact h))
      rw [e, if_neg hx]
      rcases ih (lo + 1) (by omega) (by omega) (fun q hq => h3 q (List.mem_cons_of_mem _ hq)) with ⟨h4, h5⟩ | ⟨off, h4, h5, h6, h7⟩
      · left
        refine ⟨?_, h5⟩
        simp only [List.length_cons, Int.natCast_add, Int.cast_ofNat_Int]
        omega
      · right
        refine ⟨off, by omega, by simp only [List.length_cons, Int.natCast_add, Int.cast_ofNat_Int]; omega, ?_, h7⟩
        rw [show (x.toInt - lo).toNat = (x.toInt - (lo + 1)).toNat + 1 by omega]
        simpa using h6
theorem ab_sw_l {pc : Nat} {a : Nat} {d : Int} {x : Int32} (hd : (pc : Int) + d = (a : Int)) : ∀ (l : List (Int × Int)), (∀ q ∈ l, 0 ≤ (pc : Int) + q.2 ∧ -2147483648 ≤ q.1 ∧ q.1 < 2147483648) →
    (pc : Int) + Op.lookupswitch.offset l d x.toInt = (ab_sw x (l.map (fun q => (Int32.ofInt q.1, ((pc : Int) + q.2).toNat))) a : Int) := by
  intro l
  induction l with
  | nil => intro _; exact hd
  | cons q r ih =>
    intro h
    obtain ⟨k, off⟩ := q
    obtain ⟨h1, h2, h3⟩ := h _ List.mem_cons_self
    have hk : (Int32.ofInt k).toInt = k := Int32.toInt_ofInt_of_le (by simpa using h2) (by simpa using h3)
    have e : ab_sw x (((k, off) :: r).map (fun q => (Int32.ofInt q.1, ((pc : Int) + q.2).toNat))) a = if x = Int32.ofInt k then ((pc : Int) + off).toNat else ab_sw x (r.map (fun q => (Int32.ofInt q.1, ((pc : Int) + q.2).toNat))) a := rfl
    rw [e, Op.lookupswitch.offset_cons]
    by_cases hx : x = Int32.ofInt k
    · rw [if_pos hx, if_pos (by rw [hx, hk])]
      omega
    · rw [if_neg hx, if_neg (fun q => hx (Int32.toInt_inj.mp (by rw [hk]; exact q.symm)))]
      exact ih (fun q hq => h q (List.mem_cons_of_mem _ hq))
/-- what is owed behind a step -/
def ab_Kt (p : Program) (l : Launch) (e : Env) (R : Room) (s : State) (m : MethodId) (args : Array Value) (below : List Frame) (meth : Method) (c : Code) (Q : State → Prop) (cc : ByteArray) (rt : Option FieldType) (nL : Nat) (D : va_G) (cy : Nat → ClassId) (aa : Nat → Nat) (zv : Value) (h0 n0 : Nat) (A : Nat → Prop) (mc ms c0 s0 : Nat) (nx : ab_F ⊕ (Option Value × ab_S)) : Prop := match nx with
  | .inl (pc, ll, st, c1, s1, g) => ∀ (H : Heap) (locs : List Loc) (ls : Array Slot), ab_St nL D cy aa zv h0 n0 A s ll g H locs ls → W p l e R s m args below meth c H locs (c0 + c1) (s0 + s1) Q (F0 m pc ls (st.map (ab_tr aa zv)))
  | .inr (r, g) => ∀ (H : Heap) (locs : List Loc) (ls : Array Slot) (pc c1 s1 : Nat), c1 ≤ mc → s1 ≤ ms → decode cc pc = .ok (ab_rin r, 1) → ab_rok rt r → va_P D ab_cl (ab_ws cy aa g) H → va_D A (ab_ws cy aa g) → va_S A s.heap H locs → H.size + n0 = h0 + g.1.length → W p l e R s m args below meth c H locs (c0 + c1) (s0 + s1) Q (F0 m pc ls (r.map (ab_tr aa zv)).toList)
variable {ow : Nat} {ini : Bool} {cc : ByteArray} {rt : Option FieldType} {nL : Nat} {D : va_G} {cy : Nat → ClassId} {aa : Nat → Nat} {zv : Value} {base : Nat} {ro : ab_E} {A : Nat → Prop} {mc ms c0 s0 h0 n0 : Nat} {am : Nat → Nat × Nat}
theorem ab_St.st1 {ll : ab_L} {g : ab_S} {H : Heap} {locs : List Loc} {ls ls' : Array Slot} {a : Nat} {v : Value} (h : ab_St nL D cy aa zv h0 n0 A s ll g H locs ls) (hz : zv.category = 1)
    (hl : lv_has ls' nL ((a, ab_tr aa zv v) :: (ab_lv aa zv 0 ll).filter (fun q => !(q.1 == a) && !(q.1 + 1 == a && q.2.category == 2)))) : ab_St nL D cy aa zv h0 n0 A s (ab_s1 ll a v) g H locs ls' :=
  ⟨ab_lh.st1 hz (by rw [h.2.1]; exact hl), ab_s1_len.trans h.2.1, h.2.2⟩
theorem ab_St.st2 {ll : ab_L} {g : ab_S} {H : Heap} {locs : List Loc} {ls ls' : Array Slot} {a : Nat} {v : Value} (h : ab_St nL D cy aa zv h0 n0 A s ll g H locs ls) (hz : zv.category = 1)
    (hl : lv_has ls' nL ((a, ab_tr aa zv v) :: (ab_lv aa zv 0 ll).filter (fun q => !(q.1 == a) && (!(q.1 == a + 1) && !(q.1 + 1 == a && q.2.category == 2))))) : ab_St nL D cy aa zv h0 n0 A s (ab_s2 ll a v) g H locs ls' :=
  ⟨ab_lh.st2 hz (by rw [h.2.1]; exact hl), ab_s2_len.trans h.2.1, h.2.2⟩

def ab_plain (i : Instr) : Bool := match i with
  | .getfield _ => false
  | .putfield _ => false
  | .new _ => false
  | .newarray _ => false
  | .invokevirtual _ => false
  | .invokestatic _ => false
  | .invokespecial _ => false
  | .ireturn => false
  | .lreturn => false
  | .return_ => false
  | .iaload => false
  | .laload => false
  | .baload => false
  | .iastore => false
  | .lastore => false
  | .bastore => false
  | .arraylength => false
  | .getstatic _ => false
  | .ldc _ => false
  | _ => true
set_option maxHeartbeats 4000000 in
set_option maxRecDepth 100000 in
/-- the steps that are neither calls nor ends nor touch the heap -/
theorem ab_step_a (C0 : ab_Cx p R s m args meth c ow ini cc nL D cy aa zv base ro A mc ms c0 s0 h0 n0) {i : Instr} {len a b w : Nat} {v : Value} {cs : List (Int32 × Nat)} {pc : Nat} {ll : ab_L} {st : List Value} {c1 s1 : Nat} {g : ab_S} {P : Prop} {nx : ab_N}
    (hck : ab_chk am ow ini cc rt pc (i, len, a, b, v, cs, w) = true) (hst : ab_step ro mc ms (i, len, a, b, v, cs, w) (pc, ll, st, c1, s1, g) = some (P, nx)) (hP : P) {H : Heap} {locs : List Loc} {ls : Array Slot} (hS : ab_St nL D cy aa zv h0 n0 A s ll g H locs ls)
    (hk : ab_plain i = true)
    (K : ∀ f, nx = .inl f → ab_Kt p l e R s m args below meth c Q cc rt nL D cy aa zv h0 n0 A mc ms c0 s0 (.inl f)) : W p l e R s m args below meth c H locs (c0 + c1) (s0 + s1) Q (F0 m pc ls (st.map (ab_tr aa zv))) := by
  obtain ⟨hx, hb, hml, hown, hts, hK, hE, hA, hin, hfr, hlo, hce, hsl, haa, hbs⟩ := C0
  have hz : zv.category = 1 := hE.2.2.2.2.2.2
  have hlh := hS.1
  have hlen := hS.2.1
  have hhas : lv_has ls nL (ab_lv aa zv 0 ll) := hlen ▸ hlh.has
  cases i with
  | iconst n =>
    simp only [ab_chk, Bool.and_eq_true, decide_eq_true_eq] at hck
    obtain ⟨hd, rfl, rfl⟩ := hck
    cases hst
    exact lv_iconst hx hb hd rfl (K _ rfl _ _ _ hS)
  | bipush n =>
    simp only [ab_chk, Bool.and_eq_true, decide_eq_true_eq] at hck
    obtain ⟨hd, rfl, rfl⟩ := hck
    cases hst
    exact lv_bipush hx hb hd rfl (K _ rfl _ _ _ hS)
  | sipush n =>
    simp only [ab_chk, Bool.and_eq_true, decide_eq_true_eq] at hck
    obtain ⟨hd, rfl, rfl⟩ := hck
    cases hst
    exact lv_sipush hx hb hd rfl (K _ rfl _ _ _ hS)
  | lconst n =>
    simp only [ab_chk, Bool.and_eq_true, decide_eq_true_eq] at hck
    obtain ⟨hd, rfl, rfl⟩ := hck
    cases hst
    exact lv_lconst hx hb hd rfl (K _ rfl _ _ _ hS)
  | ldc_w idx =>
    simp only [ab_chk, Bool.and_eq_true, decide_eq_true_eq] at hck
    obtain ⟨hd, rfl, hck⟩ := hck
    split at hck
    · rename_i x
      cases hst
      have hq := ab_KI_ok _ (List.mem_of_getElem? (of_decide_eq_true hck))
      exact lv_ldcw hx hb hown (ab_w hts hq rfl) hd (K _ rfl _ _ _ hS)
    · cases hck
  | ldc2_w idx =>
    simp only [ab_chk, Bool.and_eq_true, decide_eq_true_eq] at hck
    obtain ⟨hd, rfl, hck⟩ := hck
    split at hck
    · rename_i x
      cases hst
      have hq := ab_KJ_ok _ (List.mem_of_getElem? (of_decide_eq_true hck))
      exact lv_ldc2 hx hb hown (ab_w hts hq rfl) hd (K _ rfl _ _ _ hS)
    · cases hck
  | iload_n k =>
    simp only [ab_chk, Bool.and_eq_true, decide_eq_true_eq] at hck
    obtain ⟨hd, rfl, hk2⟩ := hck
    obtain ⟨x, h1, rfl⟩ := ab_r_ldi hst
    exact lv_iload_n hx hb hd hk2 (hlh.2.2 _ _ h1) (K _ rfl _ _ _ hS)
  | iload k =>
    simp only [ab_chk, Bool.and_eq_true, decide_eq_true_eq] at hck
    obtain ⟨hd, rfl, rfl⟩ := hck
    obtain ⟨x, h1, rfl⟩ := ab_r_ldi hst
    exact lv_iload hx hb hd (hlh.2.2 _ _ h1) (K _ rfl _ _ _ hS)
  | lload_n k =>
    simp only [ab_chk, Bool.and_eq_true, decide_eq_true_eq] at hck
    obtain ⟨hd, rfl, hk2⟩ := hck
    obtain ⟨x, h1, rfl⟩ := ab_r_ldj hst
    exact lv_lload_n hx hb hd hk2 (hlh.2.2 _ _ h1) (K _ rfl _ _ _ hS)
  | lload k =>
    simp only [ab_chk, Bool.and_eq_true, decide_eq_true_eq] at hck
    obtain ⟨hd, rfl, rfl⟩ := hck
    obtain ⟨x, h1, rfl⟩ := ab_r_ldj hst
    exact lv_lload hx hb hd (hlh.2.2 _ _ h1) (K _ rfl _ _ _ hS)
  | aload_n k =>
    simp only [ab_chk, Bool.and_eq_true, decide_eq_true_eq] at hck
    obtain ⟨hd, rfl, hk2⟩ := hck
    obtain ⟨x, h1, rfl⟩ := ab_r_lda hst
    exact lv_aload_n hx hb hd hk2 (hlh.2.2 _ _ h1) (K _ rfl _ _ _ hS)
  | aload k =>
    simp only [ab_chk, Bool.and_eq_true, decide_eq_true_eq] at hck
    obtain ⟨hd, rfl, rfl⟩ := hck
    obtain ⟨x, h1, rfl⟩ := ab_r_lda hst
    exact lv_aload hx hb hd (hlh.2.2 _ _ h1) (K _ rfl _ _ _ hS)
  | istore_n k =>
    simp only [ab_chk, Bool.and_eq_true, decide_eq_true_eq] at hck
    obtain ⟨hd, rfl, hk2⟩ := hck
    obtain ⟨x, r, rfl, h1, rfl⟩ := ab_r_sti hst
    exact lv_istore_n hx hb hd hk2 hhas (hlen ▸ h1) rfl (fun ls hl => K _ rfl _ _ _ (hS.st1 hz hl))
  | istore k =>
    simp only [ab_chk, Bool.and_eq_true, decide_eq_true_eq] at hck
    obtain ⟨hd, rfl, rfl⟩ := hck
    obtain ⟨x, r, rfl, h1, rfl⟩ := ab_r_sti hst
    exact lv_istore hx hb hd hhas (hlen ▸ h1) rfl (fun ls hl => K _ rfl _ _ _ (hS.st1 hz hl))
  | lstore_n k =>
    simp only [ab_chk, Bool.and_eq_true, decide_eq_true_eq] at hck
    obtain ⟨hd, rfl, hk2⟩ := hck
    obtain ⟨x, r, rfl, h1, rfl⟩ := ab_r_stj hst
    exact lv_lstore_n hx hb hd hk2 hhas (hlen ▸ h1) rfl (fun ls hl => K _ rfl _ _ _ (hS.st2 hz hl))
  | lstore k =>
    simp only [ab_chk, Bool.and_eq_true, decide_eq_true_eq] at hck
    obtain ⟨hd, rfl, rfl⟩ := hck
    obtain ⟨x, r, rfl, h1, rfl⟩ := ab_r_stj hst
    exact lv_lstore hx hb hd hhas (hlen ▸ h1) rfl (fun ls hl => K _ rfl _ _ _ (hS.st2 hz hl))
  | astore_n k =>
    simp only [ab_chk, Bool.and_eq_true, decide_eq_true_eq] at hck
    obtain ⟨hd, rfl, hk2⟩ := hck
    obtain ⟨x, r, rfl, h1, rfl⟩ := ab_r_sta hst
    exact lv_astore_n hx hb hd hk2 hhas (hlen ▸ h1) rfl (fun ls hl => K _ rfl _ _ _ (hS.st1 hz hl))
  | astore k =>
    simp only [ab_chk, Bool.and_eq_true, decide_eq_true_eq] at hck
    obtain ⟨hd, rfl, rfl⟩ := hck
    obtain ⟨x, r, rfl, h1, rfl⟩ := ab_r_sta hst
    exact lv_astore hx hb hd hhas (hlen ▸ h1) rfl (fun ls hl => K _ rfl _ _ _ (hS.st1 hz hl))
  | iinc k n =>
    simp only [ab_chk, Bool.and_eq_true, decide_eq_true_eq] at hck
    obtain ⟨hd, ⟨rfl, rfl⟩, rfl⟩ := hck
    have hst : ab_inc k (.int (Int32.ofInt n)) (pc + 3) ll st c1 s1 g = some (P, nx) := hst
    obtain ⟨x, y, h1, h2, h3, rfl⟩ := ab_r_inc hst
    cases h2
    obtain ⟨j, hj⟩ := List.getElem?_of_mem ((ab_lv_mem ll 0 (0 + k, ab_tr aa zv (.int x))).mpr ⟨k, _, h1, rfl⟩)
    rw [Nat.zero_add] at hj
    exact lv_iinc hx hb hd hhas hj rfl (hlen ▸ h3) rfl (fun ls hl => K _ rfl _ _ _ (hS.st1 (v := .int (x + Int32.ofInt n)) hz hl))
  | iadd =>
    simp only [ab_chk, Bool.and_eq_true, decide_eq_true_eq] at hck
    obtain ⟨hd, rfl⟩ := hck
    obtain ⟨x, y, r, rfl, rfl⟩ := ab_r_ii hst
    exact lv_iadd hx hb hd (K _ rfl _ _ _ hS)
  | isub =>
    simp only [ab_chk, Bool.and_eq_true, decide_eq_true_eq] at hck
    obtain ⟨hd, rfl⟩ := hck
    obtain ⟨x, y, r, rfl, rfl⟩ := ab_r_ii hst
    exact lv_isub hx hb hd (K _ rfl _ _ _ hS)
  | imul =>
    simp only [ab_chk, Bool.and_eq_true, decide_eq_true_eq] at hck
    obtain ⟨hd, rfl⟩ := hck
    obtain ⟨x, y, r, rfl, rfl⟩ := ab_r_ii hst
    exact lv_imul hx hb hd (K _ rfl _ _ _ hS)
  | iand =>
    simp only [ab_chk, Bool.and_eq_true, decide_eq_true_eq] at hck
    obtain ⟨hd, rfl⟩ := hck
    obtain ⟨x, y, r, rfl, rfl⟩ := ab_r_ii hst
    exact lv_iand hx hb hd (K _ rfl _ _ _ hS)
  | ior =>
    simp only [ab_chk, Bool.and_eq_true, decide_eq_true_eq] at hck
    obtain ⟨hd, rfl⟩ := hck
    obtain ⟨x, y, r, rfl, rfl⟩ := ab_r_ii hst
    exact lv_ior hx hb hd (K _ rfl _ _ _ hS)
  | ixor =>
    simp only [ab_chk, Bool.and_eq_true, decide_eq_true_eq] at hck
    obtain ⟨hd, rfl⟩ := hck
    obtain ⟨x, y, r, rfl, rfl⟩ := ab_r_ii hst
    exact lv_ixor hx hb hd (K _ rfl _ _ _ hS)
  | ishl =>
    simp only [ab_chk, Bool.and_eq_true, decide_eq_true_eq] at hck
    obtain ⟨hd, rfl⟩ := hck
    obtain ⟨x, y, r, rfl, rfl⟩ := ab_r_ii hst
    exact lv_ishl hx hb hd (K _ rfl _ _ _ hS)
  | ishr =>
    simp only [ab_chk, Bool.and_eq_true, decide_eq_true_eq] at hck
    obtain ⟨hd, rfl⟩ := hck
    obtain ⟨x, y, r, rfl, rfl⟩ := ab_r_ii hst
    exact lv_ishr hx hb hd (K _ rfl _ _ _ hS)
  | iushr =>
    simp only [ab_chk, Bool.and_eq_true, decide_eq_true_eq] at hck
    obtain ⟨hd, rfl⟩ := hck
    obtain ⟨x, y, r, rfl, rfl⟩ := ab_r_ii hst
    exact lv_iushr hx hb hd rfl (K _ rfl _ _ _ hS)
  | idiv =>
    simp only [ab_chk, Bool.and_eq_true, decide_eq_true_eq] at hck
    obtain ⟨hd, rfl⟩ := hck
    obtain ⟨x, y, r, rfl, rfl, rfl⟩ := ab_r_dv hst
    exact lv_idiv hx hb hd hP (K _ rfl _ _ _ hS)
  | ladd =>
    simp only [ab_chk, Bool.and_eq_true, decide_eq_true_eq] at hck
    obtain ⟨hd, rfl⟩ := hck
    obtain ⟨x, y, r, rfl, rfl⟩ := ab_r_jj hst
    exact lv_ladd hx hb hd (K _ rfl _ _ _ hS)
  | lsub =>
    simp only [ab_chk, Bool.and_eq_true, decide_eq_true_eq] at hck
    obtain ⟨hd, rfl⟩ := hck
    obtain ⟨x, y, r, rfl, rfl⟩ := ab_r_jj hst
    exact lv_lsub hx hb hd (K _ rfl _ _ _ hS)
  | lmul =>
    simp only [ab_chk, Bool.and_eq_true, decide_eq_true_eq] at hck
    obtain ⟨hd, rfl⟩ := hck
    obtain ⟨x, y, r, rfl, rfl⟩ := ab_r_jj hst
    exact lv_lmul hx hb hd (K _ rfl _ _ _ hS)
  | land =>
    simp only [ab_chk, Bool.and_eq_true, decide_eq_true_eq] at hck
    obtain ⟨hd, rfl⟩ := hck
    obtain ⟨x, y, r, rfl, rfl⟩ := ab_r_jj hst
    exact lv_land hx hb hd (K _ rfl _ _ _ hS)
  | lor =>
    simp only [ab_chk, Bool.and_eq_true, decide_eq_true_eq] at hck
    obtain ⟨hd, rfl⟩ := hck
    obtain ⟨x, y, r, rfl, rfl⟩ := ab_r_jj hst
    exact lv_lor hx hb hd (K _ rfl _ _ _ hS)
  | lxor =>
    simp only [ab_chk, Bool.and_eq_true, decide_eq_true_eq] at hck
    obtain ⟨hd, rfl⟩ := hck
    obtain ⟨x, y, r, rfl, rfl⟩ := ab_r_jj hst
    exact lv_lxor hx hb hd (K _ rfl _ _ _ hS)
  | lshl =>
    simp only [ab_chk, Bool.and_eq_true, decide_eq_true_eq] at hck
    obtain ⟨hd, rfl⟩ := hck
    obtain ⟨x, y, r, rfl, rfl⟩ := ab_r_ji hst
    exact lv_lshl hx hb hd rfl (K _ rfl _ _ _ hS)
  | lshr =>
    simp only [ab_chk, Bool.and_eq_true, decide_eq_true_eq] at hck
    obtain ⟨hd, rfl⟩ := hck
    obtain ⟨x, y, r, rfl, rfl⟩ := ab_r_ji hst
    exact lv_lshr hx hb hd rfl (K _ rfl _ _ _ hS)
  | lushr =>
    simp only [ab_chk, Bool.and_eq_true, decide_eq_true_eq] at hck
    obtain ⟨hd, rfl⟩ := hck
    obtain ⟨x, y, r, rfl, rfl⟩ := ab_r_ji hst
    exact lv_lushr hx hb hd rfl (K _ rfl _ _ _ hS)
  | lneg =>
    simp only [ab_chk, Bool.and_eq_true, decide_eq_true_eq] at hck
    obtain ⟨hd, rfl⟩ := hck
    obtain ⟨x, r, rfl, rfl⟩ := ab_r_j1 hst
    exact lv_lneg hx hb hd (K _ rfl _ _ _ hS)
  | l2i =>
    simp only [ab_chk, Bool.and_eq_true, decide_eq_true_eq] at hck
    obtain ⟨hd, rfl⟩ := hck
    obtain ⟨x, r, rfl, rfl⟩ := ab_r_j1 hst
    exact lv_l2i hx hb hd rfl (K _ rfl _ _ _ hS)
  | i2l =>
    simp only [ab_chk, Bool.and_eq_true, decide_eq_true_eq] at hck
    obtain ⟨hd, rfl⟩ := hck
    obtain ⟨x, r, rfl, rfl⟩ := ab_r_i1 hst
    exact lv_i2l hx hb hd rfl (K _ rfl _ _ _ hS)
  | i2b =>
    simp only [ab_chk, Bool.and_eq_true, decide_eq_true_eq] at hck
    obtain ⟨hd, rfl⟩ := hck
    obtain ⟨x, r, rfl, rfl⟩ := ab_r_i1 hst
    exact lv_i2b hx hb hd rfl (K _ rfl _ _ _ hS)
  | i2c =>
    simp only [ab_chk, Bool.and_eq_true, decide_eq_true_eq] at hck
    obtain ⟨hd, rfl⟩ := hck
    obtain ⟨x, r, rfl, rfl⟩ := ab_r_i1 hst
    exact lv_i2c hx hb hd rfl (K _ rfl _ _ _ hS)
  | lcmp =>
    simp only [ab_chk, Bool.and_eq_true, decide_eq_true_eq] at hck
    obtain ⟨hd, rfl⟩ := hck
    obtain ⟨x, y, r, rfl, rfl⟩ := ab_r_cm hst
    exact W.lcmp hx hb hd (K _ rfl _ _ _ hS)
  | ifCond k off =>
    simp only [ab_chk, Bool.and_eq_true, decide_eq_true_eq] at hck
    obtain ⟨hd, rfl, ht⟩ := hck
    cases k with
    | eq =>
      obtain ⟨x, r, rfl, rfl⟩ := ab_r_c1 hst
      exact lv_if_eq hx hb hd ht (fun q => by have K2 := K _ rfl _ _ _ hS; rw [if_pos q] at K2; exact K2) (fun q => by have K2 := K _ rfl _ _ _ hS; rw [if_neg q] at K2; exact K2)
    | ne =>
      obtain ⟨x, r, rfl, rfl⟩ := ab_r_c1 hst
      exact lv_if_ne hx hb hd ht (fun q => by have K2 := K _ rfl _ _ _ hS; rw [if_neg q] at K2; exact K2) (fun q => by have K2 := K _ rfl _ _ _ hS; rw [if_pos q] at K2; exact K2)
    | lt =>
      obtain ⟨x, r, rfl, rfl⟩ := ab_r_c1 hst
      exact lv_if_lt hx hb hd ht (fun q => by have K2 := K _ rfl _ _ _ hS; rw [if_pos q] at K2; exact K2) (fun q => by have K2 := K _ rfl _ _ _ hS; rw [if_neg q] at K2; exact K2)
    | ge =>
      obtain ⟨x, r, rfl, rfl⟩ := ab_r_c1 hst
      exact lv_if_ge hx hb hd ht (fun q => by have K2 := K _ rfl _ _ _ hS; rw [if_neg (Int32.not_lt.mpr q)] at K2; exact K2) (fun q => by have K2 := K _ rfl _ _ _ hS; rw [if_pos (Int32.not_le.mp q)] at K2; exact K2)
    | gt =>
      obtain ⟨x, r, rfl, rfl⟩ := ab_r_c1 hst
      exact lv_if_gt hx hb hd ht (fun q => by have K2 := K _ rfl _ _ _ hS; rw [if_pos q] at K2; exact K2) (fun q => by have K2 := K _ rfl _ _ _ hS; rw [if_neg q] at K2; exact K2)
    | le =>
      obtain ⟨x, r, rfl, rfl⟩ := ab_r_c1 hst
      exact lv_if_le hx hb hd ht (fun q => by have K2 := K _ rfl _ _ _ hS; rw [if_neg (Int32.not_lt.mpr q)] at K2; exact K2) (fun q => by have K2 := K _ rfl _ _ _ hS; rw [if_pos (Int32.not_le.mp q)] at K2; exact K2)
  | if_icmp k off =>
    simp only [ab_chk, Bool.and_eq_true, decide_eq_true_eq] at hck
    obtain ⟨hd, rfl, ht⟩ := hck
    cases k with
    | eq =>
      obtain ⟨x, y, r, rfl, rfl⟩ := ab_r_c2 hst
      exact lv_icmp_eq hx hb hd ht (fun q => by have K2 := K _ rfl _ _ _ hS; rw [if_pos q] at K2; exact K2) (fun q => by have K2 := K _ rfl _ _ _ hS; rw [if_neg q] at K2; exact K2)
    | ne =>
      obtain ⟨x, y, r, rfl, rfl⟩ := ab_r_c2 hst
      exact lv_icmp_ne hx hb hd ht (fun q => by have K2 := K _ rfl _ _ _ hS; rw [if_neg q] at K2; exact K2) (fun q => by have K2 := K _ rfl _ _ _ hS; rw [if_pos q] at K2; exact K2)
    | lt =>
      obtain ⟨x, y, r, rfl, rfl⟩ := ab_r_c2 hst
      exact lv_icmp_lt hx hb hd ht (fun q => by have K2 := K _ rfl _ _ _ hS; rw [if_pos q] at K2; exact K2) (fun q => by have K2 := K _ rfl _ _ _ hS; rw [if_neg q] at K2; exact K2)
    | ge =>
      obtain ⟨x, y, r, rfl, rfl⟩ := ab_r_c2 hst
      exact lv_icmp_ge hx hb hd ht (fun q => by have K2 := K _ rfl _ _ _ hS; rw [if_neg (Int32.not_lt.mpr q)] at K2; exact K2) (fun q => by have K2 := K _ rfl _ _ _ hS; rw [if_pos (Int32.not_le.mp q)] at K2; exact K2)
    | gt =>
      obtain ⟨x, y, r, rfl, rfl⟩ := ab_r_c2 hst
      exact lv_icmp_gt hx hb hd ht (fun q => by have K2 := K _ rfl _ _ _ hS; rw [if_pos q] at K2; exact K2) (fun q => by have K2 := K _ rfl _ _ _ hS; rw [if_neg q] at K2; exact K2)
    | le =>
      obtain ⟨x, y, r, rfl, rfl⟩ := ab_r_c2 hst
      exact lv_icmp_le hx hb hd ht (fun q => by have K2 := K _ rfl _ _ _ hS; rw [if_neg (Int32.not_lt.mpr q)] at K2; exact K2) (fun q => by have K2 := K _ rfl _ _ _ hS; rw [if_pos (Int32.not_le.mp q)] at K2; exact K2)
  | goto off =>
    simp only [ab_chk, Bool.and_eq_true, decide_eq_true_eq] at hck
    obtain ⟨hd, rfl, ht⟩ := hck
    cases hst
    exact lv_goto hx hb hd ht (K _ rfl _ _ _ hS)
  | tableswitch d lo hi offs =>
    simp only [ab_chk, Bool.and_eq_true, decide_eq_true_eq] at hck
    obtain ⟨hd, ⟨⟨⟨⟨h1, h2⟩, h3⟩, h4⟩, h5⟩, h6⟩ := hck
    obtain ⟨x, r, rfl, rfl⟩ := ab_r_c1 hst
    have K2 := K _ rfl _ _ _ hS
    subst h5
    rcases ab_sw_t (pc := pc) (a := a) (x := x) offs.toList lo h3 (by omega) (fun q hq => of_decide_eq_true (List.all_eq_true.mp h6 q hq)) with ⟨q1, q2⟩ | ⟨off, q1, q2, q3, q4⟩
    · rw [q2] at K2
      exact lv_tableOut hx hb hd (by omega) h1 K2
    · exact lv_tableIn hx hb hd q1 (by omega) (by rw [← Array.getElem?_toList]; exact q3) q4 K2
  | lookupswitch d ps =>
    simp only [ab_chk, Bool.and_eq_true, decide_eq_true_eq] at hck
    obtain ⟨hd, ⟨⟨h1, h2⟩, h3⟩, h4⟩ := hck
    obtain ⟨x, r, rfl, rfl⟩ := ab_r_c1 hst
    have K2 := K _ rfl _ _ _ hS
    subst h3
    exact lv_lookup hx hb hd h2 rfl (ab_sw_l h1 ps.toList (fun q hq => by
      have := List.all_eq_true.mp h4 q hq
      simp only [Bool.and_eq_true, decide_eq_true_eq] at this
      exact ⟨this.1.1, this.1.2, this.2⟩)) K2
  | dup =>
    simp only [ab_chk, Bool.and_eq_true, decide_eq_true_eq] at hck
    obtain ⟨hd, rfl⟩ := hck
    obtain ⟨x, r, rfl, h1, rfl⟩ := ab_r_du hst
    exact lv_dup hx hb hd ((ab_tr_cat hz x).trans h1) (K _ rfl _ _ _ hS)
  | dup2 =>
    simp only [ab_chk, Bool.and_eq_true, decide_eq_true_eq] at hck
    obtain ⟨hd, rfl⟩ := hck
    obtain ⟨x, y, r, rfl, h1, h2, rfl⟩ := ab_r_d2 hst
    exact lv_dup2_11 hx hb hd ((ab_tr_cat hz x).trans h1) ((ab_tr_cat hz y).trans h2) (K _ rfl _ _ _ hS)
  | pop =>
    simp only [ab_chk, Bool.and_eq_true, decide_eq_true_eq] at hck
    obtain ⟨hd, rfl⟩ := hck
    obtain ⟨x, r, rfl, h1, rfl⟩ := ab_r_po hst
    exact lv_pop hx hb hd ((ab_tr_cat hz x).trans h1) (K _ rfl _ _ _ hS)
  | _ => first | exact absurd hk (by decide) | exact absurd (show (false : Bool) = true from hk) (by decide) | exact absurd (show (none : Option (Prop × ab_N)) = some (P, nx) from hst) (fun h => by cases h)
end ABS
