/-! What a saying says: the parser as a relation. -/
/-- a row of atoms, up to a fault or a closing sign -/
def AL (T : tSt) (m : Nat) (z : Nat × Nat) (m' : Nat) (z' : Nat × Nat) : Prop := (¬ z'.1 = 0 ∨ tK T z'.2 = 5) ∧ ∀ R : Nat → Nat × Nat → Prop, R m' z' → (∀ m z, z.1 = 0 → ¬ tK T z.2 = 5 → R (akm T m z) (akz T m z) → R m z) → R m z
theorem AL.done {T : tSt} {m : Nat} {z : Nat × Nat} (h : ¬ z.1 = 0 ∨ tK T z.2 = 5) : AL T m z m z := ⟨h, fun _ r _ => r⟩
theorem AL.step {T : tSt} {m : Nat} {z : Nat × Nat} {m' : Nat} {z' : Nat × Nat} (h0 : z.1 = 0) (h5 : ¬ tK T z.2 = 5) (h : AL T (akm T m z) (akz T m z) m' z') : AL T m z m' z' := ⟨h.1, fun R r s => s m z h0 h5 (h.2 R r s)⟩
/-- a counted part, its word at p -/
def CPr (T : tSt) (p : Nat) (z : Nat × Nat) (lo hi : Int64) : Prop :=
  ∃ m z5, AL T (akm T 0 (sgz T 4 (wdz T 14 (nmz T 8 (0, tE T p))))) (akz T 0 (sgz T 4 (wdz T 14 (nmz T 8 (0, tE T p))))) m z5 ∧ z = sgz T 5 z5 ∧ m < 128 ∧ cbL m (nmr T 8 (0, tE T p)) (pB (wdP T 11 p)) 0 lo ∧ cbL m (nmr T 8 (0, tE T p)) (pB (wdP T 11 p)) 64 hi
noncomputable def tcl (T : tSt) (p : Nat) : Nat := if pB (atP T p < 7 ∨ wdP T 9 p ∨ wdP T 10 p) = true then 1 else if pB (wdP T 11 p ∨ wdP T 12 p) = true then 2 else if pB (wdP T 13 p) = true then 3 else if tK T p = 4 then 4 else 0
noncomputable def smL (T : tSt) (p : Nat) : Int64 := if atP T p < 7 then ab_alo (atP T p) else if pB (wdP T 9 p) = true then -1 else 0
noncomputable def smH (T : tSt) (p : Nat) : Int64 := if atP T p < 7 then ab_ahi (atP T p) else if pB (wdP T 9 p) = true then -1 else 0
def PRc (T : tSt) (R : Nat → Nat → Int64 → Int64 → Nat → Nat × Nat → Int64 → Int64 → Prop) : Prop :=
  (∀ (x p : Nat) (lo hi : Int64), tcl T p = 0 → R 0 x 0 0 p (flz T 1 (0, p)) lo hi) ∧
  (∀ (x p : Nat) (lo hi : Int64), ¬ tcl T p = 0 → 6 ≤ x → R 0 x 0 0 p (flz T 5 (0, p)) lo hi) ∧
  (∀ (x p : Nat), tcl T p = 1 → x < 6 → R 0 x 0 0 p (0, tE T p) (smL T p) (smH T p)) ∧
  (∀ (x p : Nat) (z : Nat × Nat) (lo hi : Int64), tcl T p = 2 → x < 6 → CPr T p z lo hi → R 0 x 0 0 p z lo hi) ∧
  (∀ (x p : Nat) (z : Nat × Nat) (lo hi : Int64), tcl T p = 3 → x < 6 → R 0 (x + 1) 0 0 (tE T p) z lo hi → R 0 x 0 0 p z (lo ^^^ (-1)) (hi ^^^ (-1))) ∧
  (∀ (x p : Nat) (z : Nat × Nat) (lo hi : Int64), tcl T p = 4 → x < 6 → R 2 (x + 1) 0 0 (tE T p) z lo hi → R 0 x 0 0 p (sgz T 5 z) lo hi) ∧
  (∀ (x p : Nat) (z z2 : Nat × Nat) (lo hi lo2 hi2 : Int64), z.1 = 0 → R 0 x 0 0 p z lo hi → R 3 x lo hi z.2 z2 lo2 hi2 → R 1 x 0 0 p z2 lo2 hi2) ∧
  (∀ (x p : Nat) (z : Nat × Nat) (lo hi lo2 hi2 : Int64), ¬ z.1 = 0 → R 0 x 0 0 p z lo hi → R 1 x 0 0 p z lo2 hi2) ∧
  (∀ (x p : Nat) (lo hi : Int64), ¬ wdP T 8 p → R 3 x lo hi p (0, p) lo hi) ∧
  (∀ (x p : Nat) (z z2 : Nat × Nat) (lo hi lo1 hi1 lo2 hi2 : Int64), wdP T 8 p → z.1 = 0 → R 0 x 0 0 (tE T p) z lo1 hi1 → R 3 x (lo &&& lo1) (hi &&& hi1) z.2 z2 lo2 hi2 → R 3 x lo hi p z2 lo2 hi2) ∧
  (∀ (x p : Nat) (z : Nat × Nat) (lo hi lo1 hi1 lo2 hi2 : Int64), wdP T 8 p → ¬ z.1 = 0 → R 0 x 0 0 (tE T p) z lo1 hi1 → R 3 x lo hi p z lo2 hi2) ∧
  (∀ (x p : Nat) (z z2 : Nat × Nat) (lo hi lo2 hi2 : Int64), z.1 = 0 → R 1 x 0 0 p z lo hi → R 4 x lo hi z.2 z2 lo2 hi2 → R 2 x 0 0 p z2 lo2 hi2) ∧
  (∀ (x p : Nat) (z : Nat × Nat) (lo hi lo2 hi2 : Int64), ¬ z.1 = 0 → R 1 x 0 0 p z lo hi → R 2 x 0 0 p z lo2 hi2) ∧
  (∀ (x p : Nat) (lo hi : Int64), ¬ wdP T 7 p → R 4 x lo hi p (0, p) lo hi) ∧
  (∀ (x p : Nat) (z z2 : Nat × Nat) (lo hi lo1 hi1 lo2 hi2 : Int64), wdP T 7 p → z.1 = 0 → R 1 x 0 0 (tE T p) z lo1 hi1 → R 4 x (lo ||| lo1) (hi ||| hi1) z.2 z2 lo2 hi2 → R 4 x lo hi p z2 lo2 hi2) ∧
  (∀ (x p : Nat) (z : Nat × Nat) (lo hi lo1 hi1 lo2 hi2 : Int64), wdP T 7 p → ¬ z.1 = 0 → R 1 x 0 0 (tE T p) z lo1 hi1 → R 4 x lo hi p z lo2 hi2)
/-- the least relation that keeps the rules -/
def PR (T : tSt) (k x : Nat) (a b : Int64) (p : Nat) (z : Nat × Nat) (lo hi : Int64) : Prop := ∀ R : Nat → Nat → Int64 → Int64 → Nat → Nat × Nat → Int64 → Int64 → Prop, PRc T R → R k x a b p z lo hi
theorem PR.bad {T : tSt} {x p : Nat} {lo hi : Int64} (h : tcl T p = 0)  : PR T 0 x 0 0 p (flz T 1 (0, p)) lo hi := fun R C => C.1 x p lo hi h 
theorem PR.deep {T : tSt} {x p : Nat} {lo hi : Int64} (h : ¬ tcl T p = 0) (hx : 6 ≤ x)  : PR T 0 x 0 0 p (flz T 5 (0, p)) lo hi := fun R C => C.2.1 x p lo hi h hx 
theorem PR.smp {T : tSt} {x p : Nat} (h : tcl T p = 1) (hx : x < 6)  : PR T 0 x 0 0 p (0, tE T p) (smL T p) (smH T p) := fun R C => C.2.2.1 x p h hx 
theorem PR.cnt {T : tSt} {x p : Nat} {z : Nat × Nat} {lo hi : Int64} (h : tcl T p = 2) (hx : x < 6) (c : CPr T p z lo hi)  : PR T 0 x 0 0 p z lo hi := fun R C => C.2.2.2.1 x p z lo hi h hx c 
theorem PR.neg {T : tSt} {x p : Nat} {z : Nat × Nat} {lo hi : Int64} (h : tcl T p = 3) (hx : x < 6) (c : PR T 0 (x + 1) 0 0 (tE T p) z lo hi) : PR T 0 x 0 0 p z (lo ^^^ (-1)) (hi ^^^ (-1)) := fun R C => C.2.2.2.2.1 x p z lo hi h hx (c R C)
theorem PR.par {T : tSt} {x p : Nat} {z : Nat × Nat} {lo hi : Int64} (h : tcl T p = 4) (hx : x < 6) (c : PR T 2 (x + 1) 0 0 (tE T p) z lo hi) : PR T 0 x 0 0 p (sgz T 5 z) lo hi := fun R C => C.2.2.2.2.2.1 x p z lo hi h hx (c R C)
theorem PR.tm {T : tSt} {x p : Nat} {z z2 : Nat × Nat} {lo hi lo2 hi2 : Int64} (h0 : z.1 = 0) (c : PR T 0 x 0 0 p z lo hi) (c2 : PR T 3 x lo hi z.2 z2 lo2 hi2) : PR T 1 x 0 0 p z2 lo2 hi2 := fun R C => C.2.2.2.2.2.2.1 x p z z2 lo hi lo2 hi2 h0 (c R C) (c2 R C)
theorem PR.tmF {T : tSt} {x p : Nat} {z : Nat × Nat} {lo hi lo2 hi2 : Int64} (h0 : ¬ z.1 = 0) (c : PR T 0 x 0 0 p z lo hi) : PR T 1 x 0 0 p z lo2 hi2 := fun R C => C.2.2.2.2.2.2.2.1 x p z lo hi lo2 hi2 h0 (c R C)
theorem PR.tlE {T : tSt} {x p : Nat} {lo hi : Int64} (h : ¬ wdP T 8 p)  : PR T 3 x lo hi p (0, p) lo hi := fun R C => C.2.2.2.2.2.2.2.2.1 x p lo hi h 
theorem PR.tlS {T : tSt} {x p : Nat} {z z2 : Nat × Nat} {lo hi lo1 hi1 lo2 hi2 : Int64} (h : wdP T 8 p) (h0 : z.1 = 0) (c : PR T 0 x 0 0 (tE T p) z lo1 hi1) (c2 : PR T 3 x (lo &&& lo1) (hi &&& hi1) z.2 z2 lo2 hi2) : PR T 3 x lo hi p z2 lo2 hi2 := fun R C => C.2.2.2.2.2.2.2.2.2.1 x p z z2 lo hi lo1 hi1 lo2 hi2 h h0 (c R C) (c2 R C)
theorem PR.tlF {T : tSt} {x p : Nat} {z : Nat × Nat} {lo hi lo1 hi1 lo2 hi2 : Int64} (h : wdP T 8 p) (h0 : ¬ z.1 = 0) (c : PR T 0 x 0 0 (tE T p) z lo1 hi1) : PR T 3 x lo hi p z lo2 hi2 := fun R C => C.2.2.2.2.2.2.2.2.2.2.1 x p z lo hi lo1 hi1 lo2 hi2 h h0 (c R C)
theorem PR.sy {T : tSt} {x p : Nat} {z z2 : Nat × Nat} {lo hi lo2 hi2 : Int64} (h0 : z.1 = 0) (c : PR T 1 x 0 0 p z lo hi) (c2 : PR T 4 x lo hi z.2 z2 lo2 hi2) : PR T 2 x 0 0 p z2 lo2 hi2 := fun R C => C.2.2.2.2.2.2.2.2.2.2.2.1 x p z z2 lo hi lo2 hi2 h0 (c R C) (c2 R C)
theorem PR.syF {T : tSt} {x p : Nat} {z : Nat × Nat} {lo hi lo2 hi2 : Int64} (h0 : ¬ z.1 = 0) (c : PR T 1 x 0 0 p z lo hi) : PR T 2 x 0 0 p z lo2 hi2 := fun R C => C.2.2.2.2.2.2.2.2.2.2.2.2.1 x p z lo hi lo2 hi2 h0 (c R C)
theorem PR.slE {T : tSt} {x p : Nat} {lo hi : Int64} (h : ¬ wdP T 7 p)  : PR T 4 x lo hi p (0, p) lo hi := fun R C => C.2.2.2.2.2.2.2.2.2.2.2.2.2.1 x p lo hi h 
theorem PR.slS {T : tSt} {x p : Nat} {z z2 : Nat × Nat} {lo hi lo1 hi1 lo2 hi2 : Int64} (h : wdP T 7 p) (h0 : z.1 = 0) (c : PR T 1 x 0 0 (tE T p) z lo1 hi1) (c2 : PR T 4 x (lo ||| lo1) (hi ||| hi1) z.2 z2 lo2 hi2) : PR T 4 x lo hi p z2 lo2 hi2 := fun R C => C.2.2.2.2.2.2.2.2.2.2.2.2.2.2.1 x p z z2 lo hi lo1 hi1 lo2 hi2 h h0 (c R C) (c2 R C)
theorem PR.slF {T : tSt} {x p : Nat} {z : Nat × Nat} {lo hi lo1 hi1 lo2 hi2 : Int64} (h : wdP T 7 p) (h0 : ¬ z.1 = 0) (c : PR T 1 x 0 0 (tE T p) z lo1 hi1) : PR T 4 x lo hi p z lo2 hi2 := fun R C => C.2.2.2.2.2.2.2.2.2.2.2.2.2.2.2 x p z lo hi lo1 hi1 lo2 hi2 h h0 (c R C)
theorem PR.ind {T : tSt} {M : Nat → Nat → Int64 → Int64 → Nat → Nat × Nat → Int64 → Int64 → Prop}
    (r_bad : ∀ (x p : Nat) (lo hi : Int64), tcl T p = 0 → M 0 x 0 0 p (flz T 1 (0, p)) lo hi)
    (r_deep : ∀ (x p : Nat) (lo hi : Int64), ¬ tcl T p = 0 → 6 ≤ x → M 0 x 0 0 p (flz T 5 (0, p)) lo hi)
    (r_smp : ∀ (x p : Nat), tcl T p = 1 → x < 6 → M 0 x 0 0 p (0, tE T p) (smL T p) (smH T p))
    (r_cnt : ∀ (x p : Nat) (z : Nat × Nat) (lo hi : Int64), tcl T p = 2 → x < 6 → CPr T p z lo hi → M 0 x 0 0 p z lo hi)
    (r_neg : ∀ (x p : Nat) (z : Nat × Nat) (lo hi : Int64), tcl T p = 3 → x < 6 → PR T 0 (x + 1) 0 0 (tE T p) z lo hi → M 0 (x + 1) 0 0 (tE T p) z lo hi → M 0 x 0 0 p z (lo ^^^ (-1)) (hi ^^^ (-1)))
    (r_par : ∀ (x p : Nat) (z : Nat × Nat) (lo hi : Int64), tcl T p = 4 → x < 6 → PR T 2 (x + 1) 0 0 (tE T p) z lo hi → M 2 (x + 1) 0 0 (tE T p) z lo hi → M 0 x 0 0 p (sgz T 5 z) lo hi)
    (r_tm : ∀ (x p : Nat) (z z2 : Nat × Nat) (lo hi lo2 hi2 : Int64), z.1 = 0 → PR T 0 x 0 0 p z lo hi → M 0 x 0 0 p z lo hi → PR T 3 x lo hi z.2 z2 lo2 hi2 → M 3 x lo hi z.2 z2 lo2 hi2 → M 1 x 0 0 p z2 lo2 hi2)
    (r_tmF : ∀ (x p : Nat) (z : Nat × Nat) (lo hi lo2 hi2 : Int64), ¬ z.1 = 0 → PR T 0 x 0 0 p z lo hi → M 0 x 0 0 p z lo hi → M 1 x 0 0 p z lo2 hi2)
    (r_tlE : ∀ (x p : Nat) (lo hi : Int64), ¬ wdP T 8 p → M 3 x lo hi p (0, p) lo hi)
    (r_tlS : ∀ (x p : Nat) (z z2 : Nat × Nat) (lo hi lo1 hi1 lo2 hi2 : Int64), wdP T 8 p → z.1 = 0 → PR T 0 x 0 0 (tE T p) z lo1 hi1 → M 0 x 0 0 (tE T p) z lo1 hi1 → PR T 3 x (lo &&& lo1) (hi &&& hi1) z.2 z2 lo2 hi2 → M 3 x (lo &&& lo1) (hi &&& hi1) z.2 z2 lo2 hi2 → M 3 x lo hi p z2 lo2 hi2)
    (r_tlF : ∀ (x p : Nat) (z : Nat × Nat) (lo hi lo1 hi1 lo2 hi2 : Int64), wdP T 8 p → ¬ z.1 = 0 → PR T 0 x 0 0 (tE T p) z lo1 hi1 → M 0 x 0 0 (tE T p) z lo1 hi1 → M 3 x lo hi p z lo2 hi2)
    (r_sy : ∀ (x p : Nat) (z z2 : Nat × Nat) (lo hi lo2 hi2 : Int64), z.1 = 0 → PR T 1 x 0 0 p z lo hi → M 1 x 0 0 p z lo hi → PR T 4 x lo hi z.2 z2 lo2 hi2 → M 4 x lo hi z.2 z2 lo2 hi2 → M 2 x 0 0 p z2 lo2 hi2)
    (r_syF : ∀ (x p : Nat) (z : Nat × Nat) (lo hi lo2 hi2 : Int64), ¬ z.1 = 0 → PR T 1 x 0 0 p z lo hi → M 1 x 0 0 p z lo hi → M 2 x 0 0 p z lo2 hi2)
    (r_slE : ∀ (x p : Nat) (lo hi : Int64), ¬ wdP T 7 p → M 4 x lo hi p (0, p) lo hi)
    (r_slS : ∀ (x p : Nat) (z z2 : Nat × Nat) (lo hi lo1 hi1 lo2 hi2 : Int64), wdP T 7 p → z.1 = 0 → PR T 1 x 0 0 (tE T p) z lo1 hi1 → M 1 x 0 0 (tE T p) z lo1 hi1 → PR T 4 x (lo ||| lo1) (hi ||| hi1) z.2 z2 lo2 hi2 → M 4 x (lo ||| lo1) (hi ||| hi1) z.2 z2 lo2 hi2 → M 4 x lo hi p z2 lo2 hi2)
    (r_slF : ∀ (x p : Nat) (z : Nat × Nat) (lo hi lo1 hi1 lo2 hi2 : Int64), wdP T 7 p → ¬ z.1 = 0 → PR T 1 x 0 0 (tE T p) z lo1 hi1 → M 1 x 0 0 (tE T p) z lo1 hi1 → M 4 x lo hi p z lo2 hi2)
    {k x : Nat} {a b : Int64} {p : Nat} {z : Nat × Nat} {lo hi : Int64} (h : PR T k x a b p z lo hi) : M k x a b p z lo hi :=
  (h (fun k x a b p z lo hi => PR T k x a b p z lo hi ∧ M k x a b p z lo hi) ⟨(fun x p lo hi h  => ⟨PR.bad h , r_bad x p lo hi h ⟩),
    (fun x p lo hi h hx  => ⟨PR.deep h hx , r_deep x p lo hi h hx ⟩),
    (fun x p h hx  => ⟨PR.smp h hx , r_smp x p h hx ⟩),
    (fun x p z lo hi h hx c  => ⟨PR.cnt h hx c , r_cnt x p z lo hi h hx c ⟩),
    (fun x p z lo hi h hx c => ⟨PR.neg h hx c.1, r_neg x p z lo hi h hx c.1 c.2⟩),
    (fun x p z lo hi h hx c => ⟨PR.par h hx c.1, r_par x p z lo hi h hx c.1 c.2⟩),
    (fun x p z z2 lo hi lo2 hi2 h0 c c2 => ⟨PR.tm h0 c.1 c2.1, r_tm x p z z2 lo hi lo2 hi2 h0 c.1 c.2 c2.1 c2.2⟩),
    (fun x p z lo hi lo2 hi2 h0 c => ⟨PR.tmF h0 c.1, r_tmF x p z lo hi lo2 hi2 h0 c.1 c.2⟩),
    (fun x p lo hi h  => ⟨PR.tlE h , r_tlE x p lo hi h ⟩),
    (fun x p z z2 lo hi lo1 hi1 lo2 hi2 h h0 c c2 => ⟨PR.tlS h h0 c.1 c2.1, r_tlS x p z z2 lo hi lo1 hi1 lo2 hi2 h h0 c.1 c.2 c2.1 c2.2⟩),
    (fun x p z lo hi lo1 hi1 lo2 hi2 h h0 c => ⟨PR.tlF h h0 c.1, r_tlF x p z lo hi lo1 hi1 lo2 hi2 h h0 c.1 c.2⟩),
    (fun x p z z2 lo hi lo2 hi2 h0 c c2 => ⟨PR.sy h0 c.1 c2.1, r_sy x p z z2 lo hi lo2 hi2 h0 c.1 c.2 c2.1 c2.2⟩),
    (fun x p z lo hi lo2 hi2 h0 c => ⟨PR.syF h0 c.1, r_syF x p z lo hi lo2 hi2 h0 c.1 c.2⟩),
    (fun x p lo hi h  => ⟨PR.slE h , r_slE x p lo hi h ⟩),
    (fun x p z z2 lo hi lo1 hi1 lo2 hi2 h h0 c c2 => ⟨PR.slS h h0 c.1 c2.1, r_slS x p z z2 lo hi lo1 hi1 lo2 hi2 h h0 c.1 c.2 c2.1 c2.2⟩),
    (fun x p z lo hi lo1 hi1 lo2 hi2 h h0 c => ⟨PR.slF h h0 c.1, r_slF x p z lo hi lo1 hi1 lo2 hi2 h h0 c.1 c.2⟩)⟩).2
/-- a step of the reading goes on, and inside the tape -/
def Mo (T : tSt) (z z' : Nat × Nat) : Prop := z.2 ≤ z'.2 ∧ z'.2 ≤ T.1
section MO
variable {T : tSt} {z z1 z2 : Nat × Nat}
theorem Mo.tr (h : Mo T z z1) (h' : z1.2 ≤ T.1 → Mo T z1 z2) : Mo T z z2 := ⟨Nat.le_trans h.1 (h' h.2).1, (h' h.2).2⟩
theorem mo_rf (h : z.2 ≤ T.1) : Mo T z z := ⟨Nat.le_refl _, h⟩
theorem tE_p (Z : tOK T) {p : Nat} (h : p ≤ T.1) : p ≤ tE T p := Nat.le_trans (tS_ge T p) (tE_ge Z h)
theorem mo_st (Z : tOK T) (h : z.2 ≤ T.1) : Mo T z (stz T z) := ⟨tE_p Z h, tE_le T h⟩
theorem mo_fl (k : Nat) (h : z.2 ≤ T.1) : Mo T z (flz T k z) := by
  unfold flz; split
  · exact ⟨Nat.le_refl _, h⟩
  · exact mo_rf h
theorem mo_sg (Z : tOK T) (k : Nat) (h : z.2 ≤ T.1) : Mo T z (sgz T k z) := by
  unfold sgz; split
  · exact mo_st Z h
  · exact mo_fl 1 h
theorem mo_wd (Z : tOK T) (k : Nat) (h : z.2 ≤ T.1) : Mo T z (wdz T k z) := by
  unfold wdz; split
  · exact mo_st Z h
  · exact mo_fl 1 h
theorem mo_nm (Z : tOK T) (k : Nat) (h : z.2 ≤ T.1) : Mo T z (nmz T k z) := by
  unfold nmz; (repeat' split)
  · exact mo_st Z h
  · exact mo_fl 4 h
  · exact mo_fl 1 h
theorem mo_ak (Z : tOK T) (k : Nat) (h : z.2 ≤ T.1) : Mo T z (akz T k z) := by
  unfold akz; (repeat' split)
  · exact mo_st Z h
  · exact mo_fl 3 h
  · exact mo_fl 1 h
theorem flz_n (k : Nat) (hk : 0 < k) : ¬ (flz T k z).1 = 0 := by
  unfold flz; split
  · show ¬ k + 16 * tS T z.2 = 0; omega
  · assumption
theorem tK_lt {p : Nat} (h : ¬ tK T p = 0) : tS T p < T.1 := by
  by_cases q : tS T p < T.1
  · exact q
  · exfalso
    have k0 : kd T (tS T p) = 0 := kd_0.2 (by omega)
    exact h (by unfold tK; rw [k0, if_neg (by omega)])
theorem at_K {p : Nat} (h : atP T p < 7) : tK T p = 2 := by
  unfold atP at h
  by_cases q : tK T p = 2 ∧ tE T p - tS T p = 1 ∧ T.2 (tS T p) < 104
  · exact q.1
  · rw [if_neg q] at h; omega
theorem tE_pp (Z : tOK T) {p : Nat} (h : ¬ tK T p = 0) : p < tE T p := by
  have := tE_gt Z (tK_lt h)
  have := tS_ge T p
  omega
theorem tcl_K {p : Nat} (h : ¬ tcl T p = 0) : ¬ tK T p = 0 := by
  unfold tcl at h
  by_cases h1 : atP T p < 7 ∨ wdP T 9 p ∨ wdP T 10 p
  · rcases h1 with h1 | h1 | h1
    · rw [at_K h1]; decide
    · rw [h1.1]; decide
    · rw [h1.1]; decide
  · by_cases h2 : wdP T 11 p ∨ wdP T 12 p
    · rcases h2 with h1 | h1
      · rw [h1.1]; decide
      · rw [h1.1]; decide
    · by_cases h3 : wdP T 13 p
      · rw [h3.1]; decide
      · by_cases h4 : tK T p = 4
        · rw [h4]; decide
        · rw [if_neg (fun q => h1 (pB_iff.1 q)), if_neg (fun q => h2 (pB_iff.1 q)), if_neg (fun q => h3 (pB_iff.1 q)), if_neg h4] at h
          exact absurd rfl h
theorem AL.mo (Z : tOK T) {m m' : Nat} (h : AL T m z m' z1) : z.2 ≤ T.1 → Mo T z z1 := h.2 (fun _ z => z.2 ≤ T.1 → Mo T z z1) mo_rf (fun _ _ _ _ ih q => (mo_ak Z _ q).tr ih)
theorem AL.ex (Z : tOK T) : ∀ (n m : Nat) (z : Nat × Nat), z.2 ≤ T.1 → T.1 < z.2 + n → m < 128 → ∃ m' z', AL T m z m' z' ∧ m' < 128
  | 0, _, _, h1, h2, _ => absurd h2 (by omega)
  | n + 1, m, z, h1, h2, hm => by
    by_cases c : ¬ z.1 = 0 ∨ tK T z.2 = 5
    · exact ⟨m, z, AL.done c, hm⟩
    · have c0 : z.1 = 0 := by omega
      have c5 : ¬ tK T z.2 = 5 := by omega
      by_cases a : (z.1 = 0 ∧ atP T z.2 < 7) ∧ m.testBit (atP T z.2) = false
      · have e : akz T m z = stz T z := by unfold akz; rw [if_pos a.1, if_pos a.2]
        have lt : z.2 < tE T z.2 := tE_pp Z (by rw [at_K a.1.2]; decide)
        obtain ⟨m', z', h, hm'⟩ := AL.ex Z n (akm T m z) (akz T m z) (by rw [e]; exact tE_le T h1) (by rw [e]; show T.1 < tE T z.2 + n; omega) (akm_lt hm)
        exact ⟨m', z', AL.step c0 c5 h, hm'⟩
      · have e : ¬ (akz T m z).1 = 0 := by
          unfold akz; (repeat' split)
          · rename_i q1 q2; exact absurd ⟨q1, q2⟩ a
          · exact flz_n 3 (by decide)
          · exact flz_n 1 (by decide)
        exact ⟨_, _, AL.step c0 c5 (AL.done (Or.inl e)), akm_lt hm⟩
theorem CPr.mo (Z : tOK T) {p : Nat} {lo hi : Int64} (h : CPr T p z lo hi) (hp : p ≤ T.1) : Mo T (0, tE T p) z := by
  obtain ⟨m, z5, h1, rfl, _⟩ := h
  refine ((((((mo_nm Z 8 (tE_le T hp)).tr (mo_wd Z 14)).tr (mo_sg Z 4)).tr (mo_ak Z 0)).tr (h1.mo Z)).tr (mo_sg Z 5))
theorem b6_mk (f : Nat → Bool) : ∀ n, n ≤ 64 → ∃ x : Int64, ∀ i, b6 x i = (decide (i < n) && f i)
  | 0, _ => ⟨0, fun i => by rw [b6_0]; simp⟩
  | n + 1, h => by
    obtain ⟨x, hx⟩ := b6_mk f n (by omega)
    have e : ∀ i, ¬ i = n → decide (i < n + 1) = decide (i < n) := fun i q => by
      by_cases q2 : i < n
      · rw [decide_eq_true q2, decide_eq_true (by omega)]
      · rw [decide_eq_false q2, decide_eq_false (by omega)]
    cases c : f n with
    | true =>
      refine ⟨x ||| ((1 : Int64) <<< ((nI n).toInt64 &&& 63)), fun i => ?_⟩
      rw [b6_orbit x (by omega), hx i]
      by_cases q : i = n
      · rw [q, c]; simp
      · rw [e i q, decide_eq_false q, Bool.or_false]
    | false =>
      refine ⟨x, fun i => ?_⟩
      rw [hx i]
      by_cases q : i = n
      · rw [q, c]; simp
      · rw [e i q]
theorem CPr.ex (Z : tOK T) {p : Nat} (hp : p ≤ T.1) : ∃ z lo hi, CPr T p z lo hi := by
  have hn := Z.1
  have M := ((((mo_nm Z 8 (z := (0, tE T p)) (tE_le T hp)).tr (mo_wd Z 14)).tr (mo_sg Z 4)).tr (mo_ak Z 0))
  obtain ⟨m, z5, h, hm⟩ := AL.ex Z 1001 _ _ M.2 (by omega) (akm_lt (m := 0) (by decide))
  obtain ⟨lo, hlo⟩ := b6_mk (fun i => cb m (nmr T 8 (0, tE T p)) (pB (wdP T 11 p)) (0 + i)) 64 (Nat.le_refl _)
  obtain ⟨hi, hhi⟩ := b6_mk (fun i => cb m (nmr T 8 (0, tE T p)) (pB (wdP T 11 p)) (64 + i)) 64 (Nat.le_refl _)
  exact ⟨_, lo, hi, m, z5, h, rfl, hm, fun i q => by rw [hlo i, decide_eq_true q, Bool.true_and], fun i q => by rw [hhi i, decide_eq_true q, Bool.true_and]⟩
theorem PR.mo (Z : tOK T) {k x : Nat} {a b : Int64} {p : Nat} {lo hi : Int64} (h : PR T k x a b p z lo hi) : p ≤ T.1 → Mo T (0, p) z ∧ (z.1 = 0 → k < 3 → p < z.2) := by
  refine PR.ind (M := fun k x a b p z lo hi => p ≤ T.1 → Mo T (0, p) z ∧ (z.1 = 0 → k < 3 → p < z.2)) ?_ ?_ ?_ ?_ ?_ ?_ ?_ ?_ ?_ ?_ ?_ ?_ ?_ ?_ ?_ ?_ h
  · exact fun x p lo hi h q => ⟨mo_fl (z := (0, _)) 1 q, fun e => absurd e (flz_n 1 (by decide))⟩
  · exact fun x p lo hi h hx q => ⟨mo_fl (z := (0, _)) 5 q, fun e => absurd e (flz_n 5 (by decide))⟩
  · exact fun x p h hx q => ⟨mo_st Z (z := (0, _)) q, fun _ _ => tE_pp Z (tcl_K (by omega))⟩
  · exact fun x p z lo hi h hx c q => ⟨(mo_st Z (z := (0, _)) q).tr (fun _ => c.mo Z q), fun _ _ => Nat.lt_of_lt_of_le (tE_pp Z (tcl_K (by omega))) (c.mo Z q).1⟩
  · exact fun x p z lo hi h hx c ih q => ⟨(mo_st Z (z := (0, _)) q).tr (fun a => (ih a).1), fun _ _ => Nat.lt_of_lt_of_le (tE_pp Z (tcl_K (by omega))) (ih (tE_le T q)).1.1⟩
  · exact fun x p z lo hi h hx c ih q => ⟨((mo_st Z (z := (0, _)) q).tr (fun a => (ih a).1)).tr (mo_sg Z 5), fun _ _ => Nat.lt_of_lt_of_le (tE_pp Z (tcl_K (by omega))) ((ih (tE_le T q)).1.tr (mo_sg Z 5)).1⟩
  · exact fun x p z z2 lo hi lo2 hi2 h0 c ih c2 ih2 q => ⟨(ih q).1.tr (fun a => (ih2 a).1), fun _ _ => Nat.lt_of_lt_of_le ((ih q).2 h0 (by decide)) (ih2 (ih q).1.2).1.1⟩
  · exact fun x p z lo hi lo2 hi2 h0 c ih q => ⟨(ih q).1, fun e => absurd e h0⟩
  · exact fun x p lo hi h q => ⟨mo_rf (z := (0, _)) q, fun _ e => absurd e (by decide)⟩
  · exact fun x p z z2 lo hi lo1 hi1 lo2 hi2 h h0 c ih c2 ih2 q => ⟨((mo_st Z (z := (0, _)) q).tr (fun a => (ih a).1)).tr (fun a => (ih2 a).1), fun _ e => absurd e (by decide)⟩
  · exact fun x p z lo hi lo1 hi1 lo2 hi2 h h0 c ih q => ⟨(mo_st Z (z := (0, _)) q).tr (fun a => (ih a).1), fun e => absurd e h0⟩
  · exact fun x p z z2 lo hi lo2 hi2 h0 c ih c2 ih2 q => ⟨(ih q).1.tr (fun a => (ih2 a).1), fun _ _ => Nat.lt_of_lt_of_le ((ih q).2 h0 (by decide)) (ih2 (ih q).1.2).1.1⟩
  · exact fun x p z lo hi lo2 hi2 h0 c ih q => ⟨(ih q).1, fun e => absurd e h0⟩
  · exact fun x p lo hi h q => ⟨mo_rf (z := (0, _)) q, fun _ e => absurd e (by decide)⟩
  · exact fun x p z z2 lo hi lo1 hi1 lo2 hi2 h h0 c ih c2 ih2 q => ⟨((mo_st Z (z := (0, _)) q).tr (fun a => (ih a).1)).tr (fun a => (ih2 a).1), fun _ e => absurd e (by decide)⟩
  · exact fun x p z lo hi lo1 hi1 lo2 hi2 h h0 c ih q => ⟨(mo_st Z (z := (0, _)) q).tr (fun a => (ih a).1), fun e => absurd e h0⟩
theorem PR.loops (Z : tOK T) {n : Nat} (ih : ∀ p x, p ≤ T.1 → T.1 < p + n → (∃ z lo hi, PR T 0 x 0 0 p z lo hi) ∧ (∃ z lo hi, PR T 1 x 0 0 p z lo hi)) : ∀ m p x lo hi, p ≤ T.1 → T.1 < p + m → m ≤ n + 1 → (∃ z lo' hi', PR T 3 x lo hi p z lo' hi') ∧ (∃ z lo' hi', PR T 4 x lo hi p z lo' hi')
  | 0, p, _, _, _, h1, h2, _ => absurd h2 (by omega)
  | m + 1, p, x, lo, hi, h1, h2, hm => by
    refine ⟨?_, ?_⟩
    · by_cases w : wdP T 8 p
      · have lt : p < tE T p := tE_pp Z (by rw [w.1]; decide)
        have le := tE_le T h1
        obtain ⟨z, lo1, hi1, c⟩ := (ih (tE T p) x le (by omega)).1
        by_cases h0 : z.1 = 0
        · have M := (c.mo Z le)
          have g := M.2 h0 (by decide)
          obtain ⟨z', lo', hi', c'⟩ := (PR.loops Z ih m z.2 x (lo &&& lo1) (hi &&& hi1) M.1.2 (by omega) (by omega)).1
          exact ⟨z', lo', hi', PR.tlS w h0 c c'⟩
        · exact ⟨z, 0, 0, PR.tlF w h0 c⟩
      · exact ⟨_, _, _, PR.tlE w⟩
    · by_cases w : wdP T 7 p
      · have lt : p < tE T p := tE_pp Z (by rw [w.1]; decide)
        have le := tE_le T h1
        obtain ⟨z, lo1, hi1, c⟩ := (ih (tE T p) x le (by omega)).2
        by_cases h0 : z.1 = 0
        · have M := (c.mo Z le)
          have g := M.2 h0 (by decide)
          obtain ⟨z', lo', hi', c'⟩ := (PR.loops Z ih m z.2 x (lo ||| lo1) (hi ||| hi1) M.1.2 (by omega) (by omega)).2
          exact ⟨z', lo', hi', PR.slS w h0 c c'⟩
        · exact ⟨z, 0, 0, PR.slF w h0 c⟩
      · exact ⟨_, _, _, PR.slE w⟩
theorem PR.ex (Z : tOK T) : ∀ n p x, p ≤ T.1 → T.1 < p + n → (∃ z lo hi, PR T 0 x 0 0 p z lo hi) ∧ (∃ z lo hi, PR T 1 x 0 0 p z lo hi) ∧ (∃ z lo hi, PR T 2 x 0 0 p z lo hi)
  | 0, p, _, h1, h2 => absurd h2 (by omega)
  | n + 1, p, x, h1, h2 => by
    have ih := PR.ex Z n
    have le := tE_le T h1
    have pt : ∃ z lo hi, PR T 0 x 0 0 p z lo hi := by
      by_cases c0 : tcl T p = 0
      · exact ⟨_, 0, 0, PR.bad c0⟩
      · by_cases hx : 6 ≤ x
        · exact ⟨_, 0, 0, PR.deep c0 hx⟩
        · have hx : x < 6 := by omega
          have lt := tE_pp Z (tcl_K c0)
          by_cases c1 : tcl T p = 1
          · exact ⟨_, _, _, PR.smp c1 hx⟩
          · by_cases c2 : tcl T p = 2
            · obtain ⟨z, lo, hi, c⟩ := CPr.ex Z h1
              exact ⟨_, _, _, PR.cnt c2 hx c⟩
            · by_cases c3 : tcl T p = 3
              · obtain ⟨z, lo, hi, c⟩ := (ih (tE T p) (x + 1) le (by omega)).1
                exact ⟨_, _, _, PR.neg c3 hx c⟩
              · have c4 : tcl T p = 4 := by
                  revert c0 c1 c2 c3
                  unfold tcl
                  (repeat' split) <;> omega
                obtain ⟨z, lo, hi, c⟩ := (ih (tE T p) (x + 1) le (by omega)).2.2
                exact ⟨_, _, _, PR.par c4 hx c⟩
    have lps := PR.loops Z (n := n) (fun p x h1 h2 => ⟨(ih p x h1 h2).1, (ih p x h1 h2).2.1⟩)
    have tm : ∃ z lo hi, PR T 1 x 0 0 p z lo hi := by
      obtain ⟨z, lo, hi, c⟩ := pt
      by_cases h0 : z.1 = 0
      · have M := c.mo Z h1
        have g := M.2 h0 (by decide)
        obtain ⟨z', lo', hi', c'⟩ := (lps n z.2 x lo hi M.1.2 (by omega) (by omega)).1
        exact ⟨z', lo', hi', PR.tm h0 c c'⟩
      · exact ⟨z, 0, 0, PR.tmF h0 c⟩
    refine ⟨pt, tm, ?_⟩
    obtain ⟨z, lo, hi, c⟩ := tm
    by_cases h0 : z.1 = 0
    · have M := c.mo Z h1
      have g := M.2 h0 (by decide)
      obtain ⟨z', lo', hi', c'⟩ := (lps n z.2 x lo hi M.1.2 (by omega) (by omega)).2
      exact ⟨z', lo', hi', PR.sy h0 c c'⟩
    · exact ⟨z, 0, 0, PR.syF h0 c⟩
theorem sy_ex (Z : tOK T) {p : Nat} (hp : p ≤ T.1) : ∃ z lo hi, PR T 2 0 0 0 p z lo hi := (PR.ex Z 1001 p 0 hp (by have := Z.1; omega)).2.2
end MO
