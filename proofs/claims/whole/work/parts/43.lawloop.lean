/-! The law's loop, out of what its calls do: Rel is what holds of the memory between two calls. -/
abbrev lw_ll (y : Int32) (a b : Option Value) : ab_L := [some (.ref 1000220), some (.ref 0), some (.ref 40), some (.ref 83), some (.int y), a, b]
abbrev lw_run (L : Nat) (xs : Nat → Int32) (X : ab_F → Prop) (f : ab_F) : Prop := ab_X (ab_sem (ab_ro L xs) ab_mt 40) (ab_ro L xs) 0 0 (ab_lk2 pl_L_law) lw_sp2 (fun r _ => r = some (.int 1)) X f
def lw_End (Rel : (Nat → Nat → Int32) → (Nat → Nat → Int64) → Prop) (L j : Nat) (f : ab_F) : Prop := ∃ mi ml a b, f = (1304, lw_ll (nI j) a b, [], 0, 0, ab_G mi ml) ∧ Rel mi ml ∧ j + 7 ≤ L
def lw_XX (Rel : (Nat → Nat → Int32) → (Nat → Nat → Int64) → Prop) (L : Nat) (xs : Nat → Int32) (j : Nat) (f : ab_F) : Prop := lw_End Rel L j f ∨ ∃ mi ml, f = (1256, lw_ll (nI j) none none, [.ref 83, .int (xs (j + 1)), .ref 0], 0, 0, ab_G mi ml) ∧ Rel mi ml ∧ j + 7 ≤ L
/-- what the helper does -/
def lw_H (L : Nat) (xs : Nat → Int32) (mi : Nat → Nat → Int32) (ml : Nat → Nat → Int64) (x r : Int32) (mi' : Nat → Nat → Int32) (ml' : Nat → Nat → Int64) : Prop :=
  ((x.toInt < 0 ∨ 9 < x.toInt) ∧ r = 1 ∧ mi' = mi ∧ ml' = ml) ∨ (∃ v ml1, ab_sem (ab_ro L xs) ab_mt 40 133 [.ref 0, .int x] (ab_G mi ml) (some (.int v)) (ab_G mi' ml1) ∧ r = 0 ∧ ml' = ab_ul ml1 83 0 v.toInt64)
def lw_Steps (Rel : (Nat → Nat → Int32) → (Nat → Nat → Int64) → Prop) : Prop :=
  ∀ (L : Nat) (xs : Nat → Int32), L ≤ 3584 → ∀ (j : Nat) (mi : Nat → Nat → Int32) (ml : Nat → Nat → Int64), j ≤ L → Rel mi ml →
    lw_run L xs (lw_XX Rel L xs j) (23, lw_ll (nI j) none none, [], 0, 0, ab_G mi ml) ∧
    (∃ r mi' ml', lw_H L xs mi ml (xs (j + 1)) r mi' ml' ∧ (j + 7 ≤ L → lw_run L xs (lw_End Rel L j) (1259, lw_ll (nI j) none none, [.int r], 0, 0, ab_G mi' ml')))
theorem ab_St.drop {nL : Nat} {D : va_G} {cy : Nat → ClassId} {aa : Nat → Nat} {zv : Value} {h0 n0 : Nat} {A : Nat → Prop} {s : State} {ll ll' : ab_L} {g : ab_S} {H : Heap} {locs : List Loc} {ls : Array Slot} (h : ab_St nL D cy aa zv h0 n0 A s ll g H locs ls) (hn : ll'.length = ll.length) (hd : ∀ (i : Nat) (v : Value), ll'[i]? = some (some v) → ll[i]? = some (some v)) : ab_St nL D cy aa zv h0 n0 A s ll' g H locs ls :=
  ⟨⟨h.1.1.trans hn.symm, h.1.2.1, fun i v hi => h.1.2.2 i v (hd i v hi)⟩, hn.trans h.2.1, h.2.2⟩
theorem ab_St.base {nL : Nat} {D : va_G} {cy : Nat → ClassId} {aa : Nat → Nat} {zv : Value} {h0 n0 h1 n1 : Nat} {A : Nat → Prop} {s : State} {ll : ab_L} {g : ab_S} {H : Heap} {locs : List Loc} {ls : Array Slot} (h : ab_St nL D cy aa zv h0 n0 A s ll g H locs ls) (hn : H.size + n1 = h1 + g.1.length) : ab_St nL D cy aa zv h1 n1 A s ll g H locs ls :=
  ⟨h.1, h.2.1, h.2.2.1, h.2.2.2.1, h.2.2.2.2.1, hn⟩
theorem cn_hw : Cond.methodLink (ab_own 19) 148 yL_count ∈ lw_tbl ∧ Cond.static yL_count ∈ lw_tbl ∧ Cond.initialized (ab_own 19) ∈ lw_tbl ∧ Cond.codeWith yL_count cL_count 4 (some .int) [(0, 9, 12, 13)] ∈ lw_tbl := ⟨ab_in5 (List.mem_of_getElem? (i := 99) rfl), ab_in5 (List.mem_of_getElem? (i := 100) rfl), ab_in1 (List.mem_of_getElem? (i := 0) rfl), ab_in5 (List.mem_of_getElem? (i := 101) rfl)⟩
theorem dlw_1256 : decode cL_law 1256 = .ok (.invokestatic 148, 3) := by decide +kernel
set_option maxHeartbeats 4000000 in
theorem law_loop {p : Program} {e : Env} {s : State} {m : MethodId} {below : List Frame} {meth : Method} {c : Code} {l : Launch} (hl : l.stackTraces = false) {b L : Nat} {xs : Nat → Int32} (hL : L ≤ 3584) (C0 : lw_At p s m meth c b L xs)
    {D : va_G} {cy : Nat → ClassId} {aa : Nat → Nat} {zv : Value} (hK : va_K D ab_cl (ab_tys cy) s) (hE : ab_Env (ab_ro L xs) aa zv (fun q => s.heap.size ≤ q) s s.heap) (hEX : cn_EX (fun q => s.heap.size ≤ q) s s.heap) (haa : ∀ x, x < 1000 → aa x = s.heap.size + x)
    {Rel : (Nat → Nat → Int32) → (Nat → Nat → Int64) → Prop} (hSt : lw_Steps Rel) :
    ∀ (n j : Nat), j ≤ L → L - j < n → ∀ (mi : Nat → Nat → Int32) (ml : Nat → Nat → Int64), Rel mi ml → ∀ (H : Heap) (locs : List Loc) (ls : Array Slot) (cells slots : Nat), cells + (L - j) ≤ 4000 → slots + 6 * (L - j) ≤ 40000 → ab_St 7 D cy aa zv H.size 84 (fun q => s.heap.size ≤ q) s (lw_ll (nI j) none none) (ab_G mi ml) H locs ls →
      W p l e room_1 s m #[Value.ref b] below meth c H locs cells slots (lw_Z below #[Value.ref b] s) (F0 m 23 ls []) := by
  obtain ⟨hx, hb, hr, hml, hown, hts, hX, hbl, hlocks, hgv⟩ := id C0
  have hz : zv.category = 1 := hE.2.2.2.2.2.2
  have hts2 : ∀ w ∈ ab_big, w.before #[Value.ref b] s = true := fun w hw => hts w (List.mem_filter.mp hw).1
  have hA : ∀ q : Nat, s.heap.size ≤ q → (fun q : Nat => s.heap.size ≤ q) q := fun _ h => h
  -- the frame's facts, at any room that is left
  have hCx : ∀ (h0 cells slots : Nat), cells ≤ 601024 → slots ≤ 7293034 → ab_Cx p room_1 s m #[Value.ref b] meth c 19 false cL_law 7 D cy aa zv s.heap.size (ab_ro L xs) (fun q => s.heap.size ≤ q) 0 0 cells slots h0 84 := fun h0 cells slots h1 h2 =>
    ⟨hx, hb, hml, hown, hts2, hK, hE, hA, (fun h => by cases h), (by decide), (by decide), h1, h2, haa, fun h => absurd h (Nat.lt_irrefl 0)⟩
  have hcall : ∀ k as g r g', ab_sem (ab_ro L xs) ab_mt 40 k as g r g' → ab_Ct l D cy aa zv s.heap.size (ab_ro L xs) ab_am 40 k as g r g' := fun k as g r g' h => ab_sem_ok haa ab_mt_ok 40 k as g r g' h
  have hroom : 40 + 2 ≤ room_1.frames ∧ 40 * (40 + 2) ≤ room_1.locals := ⟨by decide, by decide⟩
  -- an end with 1
  have hKR : ∀ (h0 cells slots : Nat), cells ≤ 601024 → slots ≤ 7293034 → ∀ (r : Option Value) (g : ab_S), r = some (.int 1) → ab_Kt p l e room_1 s m #[Value.ref b] below meth c (lw_Z below #[Value.ref b] s) cL_law (some .boolean) 7 D cy aa zv h0 84 (fun q => s.heap.size ≤ q) 0 0 cells slots (.inr (r, g)) := by
    intro h0 cells slots h1 h2 r g hrr
    subst hrr
    intro H locs ls pc c1 s1 hc1 hs1 hd hok hP2 hD2 hS2 hsz2
    refine va_forget hS2.2.2 ?_
    refine W.widen (k := 601024) (n := 7293034) (by omega) (by omega) ?_
    exact lw_ret hx hb hr hlocks hd
  intro n
  induction n with
  | zero => intro j _ h; omega
  | succ n ih =>
    intro j hj hn mi ml hRel H locs ls cells slots hcells hslots hS
    -- from 1304 back to the head
    have hback : ∀ (f : ab_F), lw_End Rel L j f → ∀ (cells slots h0 : Nat), cells + (L - (j + 7)) ≤ 4000 → slots + 6 * (L - (j + 7)) ≤ 40000 → ab_Kt p l e room_1 s m #[Value.ref b] below meth c (lw_Z below #[Value.ref b] s) cL_law (some .boolean) 7 D cy aa zv h0 84 (fun q => s.heap.size ≤ q) 0 0 cells slots (.inl f) := by
      intro f hf cells slots h0 hc1 hs1
      obtain ⟨mi, ml, o5, o6, rfl, hRel, hj7⟩ := hf
      intro H locs ls hS
      have hS0 : ab_St 7 D cy aa zv h0 84 (fun q => s.heap.size ≤ q) s (lw_ll (nI j) none none) (ab_G mi ml) H locs ls := hS.drop rfl (fun i v hi => by
        match i, hi with
        | 0, hi => exact hi
        | 1, hi => exact hi
        | 2, hi => exact hi
        | 3, hi => exact hi
        | 4, hi => exact hi
        | 5, hi => cases hi
        | 6, hi => cases hi
        | k + 7, hi => cases hi)
      obtain ⟨k, hk⟩ := vl_1304 (call := ab_sem (ab_ro L xs) ab_mt 40) (L := L) (xs := xs) (Q := fun r _ => r = some (.int 1)) (X := fun f => f = (23, lw_ll (nI j + 7) none none, [], 0, 0, ab_G mi ml)) (nI j) mi ml rfl
      have hfin := ab_run_ok (p := p) (l := l) (e := e) (below := below) (Q := lw_Z below #[Value.ref b] s) (rt := some .boolean) (hCx h0 cells slots (by omega) (by omega)) (d := 40) hroom (ab_ckl_ok ck_L_law) hcall (hKR h0 cells slots (by omega) (by omega)) (fun f hf => ?_) k _ hk
      · exact hfin H locs ls hS0
      · subst hf
        intro H2 locs2 ls2 hS2
        have e7 : nI j + 7 = nI (j + 7) := nI_add j 7
        rw [e7] at hS2
        refine ih (j + 7) hj7 (by omega) mi ml hRel H2 locs2 ls2 (cells + 0) (slots + 0) (by omega) (by omega) (hS2.base (by show H2.size + 84 = H2.size + 84; rfl))
    obtain ⟨⟨k, hk⟩, r, mi', ml', hH, hAf⟩ := hSt L xs hL j mi ml hj hRel
    have hfin := ab_run_ok (p := p) (l := l) (e := e) (below := below) (Q := lw_Z below #[Value.ref b] s) (rt := some .boolean) (hCx H.size cells slots (by omega) (by omega)) (d := 40) hroom (ab_ckl_ok ck_L_law) hcall (hKR H.size cells slots (by omega) (by omega)) (fun f hf => ?_) k _ hk
    · exact hfin H locs ls hS
    · rcases hf with hf | ⟨mi2, ml2, rfl, hRel2, hj7⟩
      · exact hback f hf cells slots H.size (by omega) (by omega)
      · sorry
