/-! The law's loop, out of what its calls do: Rel is what holds of the memory between two calls. -/
abbrev lw_ll (y : Int32) (a b : Option Value) : ab_L := [some (.ref 1000220), some (.ref 0), some (.ref 40), some (.ref 83), some (.int y), a, b]
abbrev lw_run (L : Nat) (xs : Nat → Int32) (X : ab_F → Prop) (f : ab_F) : Prop := ab_X (ab_sem (ab_ro L xs) ab_mt 40) (ab_ro L xs) 0 0 (ab_lk2 pl_L_law) lw_sp2 (fun r _ => r = some (.int 1)) X f
def lw_End (Rel : (Nat → Nat → Int32) → (Nat → Nat → Int64) → Prop) (L j : Nat) (f : ab_F) : Prop := ∃ mi ml a b, f = (1304, lw_ll (nI j) a b, [], 0, 0, ab_G mi ml) ∧ Rel mi ml ∧ j + 7 ≤ L
def lw_XX (Rel : (Nat → Nat → Int32) → (Nat → Nat → Int64) → Prop) (L : Nat) (xs : Nat → Int32) (j : Nat) (f : ab_F) : Prop := lw_End Rel L j f ∨ ∃ mi ml, f = (1256, lw_ll (nI j) none none, [.ref 83, .int (xs (j + 1)), .ref 0], 0, 0, ab_G mi ml) ∧ Rel mi ml ∧ j + 7 ≤ L
/-- what the helper does -/
def lw_H (L : Nat) (xs : Nat → Int32) (mi : Nat → Nat → Int32) (ml : Nat → Nat → Int64) (x r : Int32) (mi' : Nat → Nat → Int32) (ml' : Nat → Nat → Int64) : Prop :=
  ((x.toInt < 0 ∨ 9 < x.toInt) ∧ r = 1 ∧ mi' = mi ∧ ml' = ml) ∨ (∃ v ml1, ab_sem (ab_ro L xs) ab_mt 40 133 [.ref 0, .int x] (ab_G mi ml) (some (.int v)) (ab_G mi' ml1) ∧ r = 0 ∧ ml' = ab_ul ml1 83 0 v.toInt64)
def lw_Steps (Rel : (Nat → Nat → Int32) → (Nat → Nat → Int64) → Prop) : Prop :=
  ∀ (L : Nat) (xs : Nat → Int32), L ≤ 3584 → ∀ (j : Nat) (mi : Nat → Nat → Int32) (ml : Nat → Nat → Int64), j ≤ L → Rel mi ml →
    lw_run L xs (lw_XX Rel L xs j) (23, lw_ll (nI j) none none, [], 0, 0, ab_G mi ml) ∧
    (∃ r mi' ml', lw_H L xs mi ml (xs (j + 1)) r mi' ml' ∧ (j + 7 ≤ L → lw_run L xs (lw_End Rel L j) (1259, lw_ll (nI j) none none, [.int r], 0, 0, ab_G mi' ml')))
theorem ab_St.drop {nL : Nat} {D : va_G} {cy : Nat → ClassId} {aa : Nat → Nat} {zv : Value} {h0 n0 : Nat} {A : Nat → Prop} {s : State} {ll ll' : ab_L} {g : ab_S} {H : Heap} {locs : List Loc} {ls : Array Slot} (h : ab_St nL D cy aa zv h0 n0 A s ll g H locs ls) (hn : ll'.length = ll.length) (hd : ∀ (i : Nat) (v : Value), ll'[i]? = some (some v) → ll[i]? = some (some v)) : ab_St nL D cy aa zv h0 n0 A s ll' g H locs ls :=
  ⟨⟨h.1.1.trans hn.symm, h.1.2.1, fun i v hi => h.1.2.2 i v (hd i v hi)⟩, hn.trans h.2.1, h.2.2⟩
theorem ab_St.base {nL : Nat} {D : va_G} {cy : Nat → ClassId} {aa : Nat → Nat} {zv : Value} {h0 n0 h1 n1 : Nat} {A : Nat → Prop} {s : State} {ll : ab_L} {g : ab_S} {H : Heap} {locs : List Loc} {ls : Array Slot} (h : ab_St nL D cy aa zv h0 n0 A s ll g H locs ls) (hn : H.size + n1 = h1 + g.1.length) : ab_St nL D cy aa zv h1 n1 A s ll g H locs ls :=
  ⟨h.1, h.2.1, h.2.2.1, h.2.2.2.1, h.2.2.2.2.1, hn⟩
theorem cn_hw : Cond.methodLink (ab_own 19) 148 yL_count ∈ lw_tbl ∧ Cond.static yL_count ∈ lw_tbl ∧ Cond.initialized (ab_own 19) ∈ lw_tbl ∧ Cond.codeWith yL_count cL_count 4 (some .int) [(0, 9, 12, 13)] ∈ lw_tbl := ⟨ab_in5 (List.mem_of_getElem? (i := 95) rfl), ab_in5 (List.mem_of_getElem? (i := 96) rfl), ab_in1 (List.mem_of_getElem? (i := 0) rfl), ab_in5 (List.mem_of_getElem? (i := 97) rfl)⟩
theorem dlw_1256 : decode cL_law 1256 = .ok (.invokestatic 148, 3) := by decide +kernel
