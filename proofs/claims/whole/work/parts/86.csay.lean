/-! Sayings, the class's side. -/
def ptM (T : tSt) (L : Nat) (xs : Nat → Int32) (x p : Nat) (z : Nat × Nat) (lo hi : Int64) : Prop := ∀ D mi ml, x ≤ 6 → 3 * (6 - x) + 10 ≤ D → RS T (0, p) mi → ∃ mi' ml', cS (ab_ro L xs) D 75 [.ref 5, .int (nI x)] mi ml none mi' ml' ∧ PE T z lo hi mi ml mi' ml'
/-- the head of the loop of a saying: the worlds of the terms that have ended, those of the term that is read -/
abbrev hdW (L : Nat) (xs : Nat → Int32) (D : Nat) (Q : Option Value → ab_S → Prop) (x : Nat) (a b tl th : Int64) (v : Int32) (i : Nat) (mi : cM1) (ml : cM2) : Prop := W_X7_saying_21 (cs (ab_ro L xs) D) (ab_ro L xs) Q (nI x) a b tl th v (nI i) mi ml
/-- what follows where a term has ended at p -/
def tEn (T : tSt) (L : Nat) (xs : Nat → Int32) (D : Nat) (Q : Option Value → ab_S → Prop) (x : Nat) (a b : Int64) (p i : Nat) (mi : cM1) (ml : cM2) : Prop := (wdP T 7 p → ∀ m', RS T (0, tE T p) m' → fr rdA rdB mi ml m' ml → hdW L xs D Q x a b (-1) (-1) 1 (i + 1) m' ml) ∧ (¬ wdP T 7 p → Q none (ab_G mi (ab_ul (ab_ul ml 5 2 a) 5 3 b)))
/-- what follows where a part has ended at p -/
def pEn (T : tSt) (L : Nat) (xs : Nat → Int32) (D : Nat) (Q : Option Value → ab_S → Prop) (x : Nat) (s t a b : Int64) (p i : Nat) (mi : cM1) (ml : cM2) : Prop := (wdP T 8 p → ∀ m', RS T (0, tE T p) m' → fr rdA rdB mi ml m' ml → hdW L xs D Q x s t a b 1 (i + 1) m' ml) ∧ (¬ wdP T 8 p → tEn T L xs D Q x (s ||| a) (t ||| b) p i mi ml)
/-- what follows a fault -/
def fEn (T : tSt) (z : Nat × Nat) (Q : Option Value → ab_S → Prop) (mi : cM1) (ml : cM2) : Prop := ¬ z.1 = 0 → ∀ m' l' a b, RS T z m' → fr rdA rdB mi ml m' l' → Q none (ab_G m' (ab_ul (ab_ul l' 5 2 a) 5 3 b))
/-- what follows a term that was read -/
def gEn (T : tSt) (L : Nat) (xs : Nat → Int32) (D : Nat) (Q : Option Value → ab_S → Prop) (x : Nat) (a b : Int64) (z : Nat × Nat) (mi : cM1) (ml : cM2) : Prop := z.1 = 0 → ∀ m' l' i, RS T (0, z.2) m' → fr rdA rdB mi ml m' l' → i < z.2 → tEn T L xs D Q x a b z.2 i m' l'
def tmM (T : tSt) (L : Nat) (xs : Nat → Int32) (x p : Nat) (z : Nat × Nat) (lo hi : Int64) : Prop := ∀ D mi ml i Q s t, x ≤ 6 → 3 * (6 - x) + 11 ≤ D → RS T (0, p) mi → i ≤ p → i < 1000 → fEn T z Q mi ml → gEn T L xs D Q x (s ||| lo) (t ||| hi) z mi ml → hdW L xs D Q x s t (-1) (-1) 1 i mi ml
def syM (T : tSt) (L : Nat) (xs : Nat → Int32) (x p : Nat) (z : Nat × Nat) (lo hi : Int64) : Prop := ∀ D mi ml, x ≤ 6 → 3 * (6 - x) + 12 ≤ D → RS T (0, p) mi → ∃ mi' ml', cS (ab_ro L xs) D 73 [.ref 5, .int (nI x)] mi ml none mi' ml' ∧ PE T z lo hi mi ml mi' ml'
def tlM (T : tSt) (L : Nat) (xs : Nat → Int32) (x : Nat) (a b : Int64) (p : Nat) (z : Nat × Nat) (lo hi : Int64) : Prop := ∀ D mi ml i Q s t, x ≤ 6 → 3 * (6 - x) + 11 ≤ D → RS T (0, p) mi → i < p → fEn T z Q mi ml → gEn T L xs D Q x (s ||| lo) (t ||| hi) z mi ml → pEn T L xs D Q x s t a b p i mi ml
def slM (T : tSt) (L : Nat) (xs : Nat → Int32) (x : Nat) (a b : Int64) (p : Nat) (z : Nat × Nat) (lo hi : Int64) : Prop := ∀ D mi ml i Q, x ≤ 6 → 3 * (6 - x) + 11 ≤ D → RS T (0, p) mi → i < p → (∀ mi' ml', PE T z lo hi mi ml mi' ml' → Q none (ab_G mi' ml')) → tEn T L xs D Q x a b p i mi ml
def cMo (T : tSt) (L : Nat) (xs : Nat → Int32) : Nat → Nat → Int64 → Int64 → Nat → Nat × Nat → Int64 → Int64 → Prop
  | 0, x, _, _, p, z, lo, hi => ptM T L xs x p z lo hi
  | 1, x, _, _, p, z, lo, hi => tmM T L xs x p z lo hi
  | 2, x, _, _, p, z, lo, hi => syM T L xs x p z lo hi
  | 3, x, a, b, p, z, lo, hi => tlM T L xs x a b p z lo hi
  | _, x, a, b, p, z, lo, hi => slM T L xs x a b p z lo hi
section CS
variable {L : Nat} {xs : Nat → Int32} {d : Nat} {mi m1 m2 : cM1} {ml l1 l2 : cM2} {T : tSt} {z : Nat × Nat} {lo hi : Int64}
theorem PE.tr (F : fr rdA rdB mi ml m1 l1) (h : PE T z lo hi m1 l1 m2 l2) : PE T z lo hi mi ml m2 l2 := ⟨h.1, h.2.1, F.tr h.2.2⟩
theorem x6 {x : Nat} (hx : x ≤ 6) : (nI x < 6) = (x < 6) := xl_6 (by omega)
set_option maxHeartbeats 2000000 in
/-- the choice that a part makes -/
theorem s_part {e x p : Nat} {P : cM1 → cM2 → Prop} (Z : tOK T) (hx : x ≤ 6) (R : RS T (0, p) mi)
    (h0 : tcl T p = 0 → ∀ m', RS T (flz T 1 (0, p)) m' → fr rdA rdB mi ml m' ml → P m' ml)
    (h5 : ¬ tcl T p = 0 → ¬ x < 6 → ∀ m', RS T (flz T 5 (0, p)) m' → fr rdA rdB mi ml m' ml → P m' ml)
    (h1 : tcl T p = 1 → x < 6 → ∃ m' l', cS (ab_ro L xs) (e + 8) 76 [.ref 5] mi ml none m' l' ∧ P m' l')
    (h2 : tcl T p = 2 → x < 6 → ∃ m' l', cS (ab_ro L xs) (e + 8) 77 [.ref 5] mi ml none m' l' ∧ P m' l')
    (h3 : tcl T p = 3 → x < 6 → ∃ m1 l1, cS (ab_ro L xs) (e + 8) 85 [.ref 2] mi ml none m1 l1 ∧ ∃ m' l', cS (ab_ro L xs) (e + 8) 75 [.ref 5, .int (nI (x + 1))] m1 l1 none m' l' ∧ P m' (ab_ul (ab_ul l' 5 2 ((l' 5 2) ^^^ (-1))) 5 3 ((l' 5 3) ^^^ (-1))))
    (h4 : tcl T p = 4 → x < 6 → ∃ m1 l1, cS (ab_ro L xs) (e + 8) 85 [.ref 2] mi ml none m1 l1 ∧ ∃ m2 l2, cS (ab_ro L xs) (e + 8) 73 [.ref 5, .int (nI (x + 1))] m1 l1 none m2 l2 ∧ ∃ m' l', cS (ab_ro L xs) (e + 8) 70 [.ref 5, .int 5] m2 l2 none m' l' ∧ P m' l') :
    ∃ mi' ml', cS (ab_ro L xs) (e + 9) 75 [.ref 5, .int (nI x)] mi ml none mi' ml' ∧ P mi' ml' := by
  refine ab_ex_q rfl rfl (fun Q hQ => vc_X7_part_0 (nI x) mi ml ?_)
  have hz : mi 5 1 = 0 := R.2.2.2.1
  have e1 : nI x + 1 = nI (x + 1) := nI_1 x
  have f1 : tcl T p = 0 → ∃ (m2 : cM1) (l2 : cM2), cS (ab_ro L xs) (e + 8) 67 [.ref 5, .int 1] mi ml none m2 l2 ∧ Q none (ab_G m2 l2) := fun c => by
    obtain ⟨m', s, R', F'⟩ := s_fail (ro := ab_ro L xs) (d := e + 7) (ml := ml) (v := 1) Z (k := 1) rfl (by decide) R
    exact ⟨m', ml, s, hQ _ _ (h0 c m' R' F')⟩
  have f5 : ¬ tcl T p = 0 → ¬ nI x < 6 → ∃ (m2 : cM1) (l2 : cM2), cS (ab_ro L xs) (e + 8) 67 [.ref 5, .int 5] mi ml none m2 l2 ∧ Q none (ab_G m2 l2) := fun c cx => by
    obtain ⟨m', s, R', F'⟩ := s_fail (ro := ab_ro L xs) (d := e + 7) (ml := ml) (v := 5) Z (k := 5) rfl (by decide) R
    exact ⟨m', ml, s, hQ _ _ (h5 c (by rw [x6 hx] at cx; exact cx) m' R' F')⟩
  have g1 : tcl T p = 1 → nI x < 6 → ∃ (m2 : cM1) (l2 : cM2), cS (ab_ro L xs) (e + 8) 76 [.ref 5] mi ml none m2 l2 ∧ Q none (ab_G m2 l2) := fun c cx => by
    obtain ⟨m', l', s, h⟩ := h1 c (by rw [x6 hx] at cx; exact cx)
    exact ⟨m', l', s, hQ _ _ h⟩
  have g2 : tcl T p = 2 → nI x < 6 → ∃ (m2 : cM1) (l2 : cM2), cS (ab_ro L xs) (e + 8) 77 [.ref 5] mi ml none m2 l2 ∧ Q none (ab_G m2 l2) := fun c cx => by
    obtain ⟨m', l', s, h⟩ := h2 c (by rw [x6 hx] at cx; exact cx)
    exact ⟨m', l', s, hQ _ _ h⟩
  have w9 := s_wd9 (L := L) (xs := xs) (d := e + 3) (ml := ml) Z R.1 R.2.2.1 R.2.1
  have w10 := s_wd10 (L := L) (xs := xs) (d := e + 3) (ml := ml) Z R.1 R.2.2.1 R.2.1
  have w11 := s_wd11 (L := L) (xs := xs) (d := e + 3) (ml := ml) Z R.1 R.2.2.1 R.2.1
  have w12 := s_wd12 (L := L) (xs := xs) (d := e + 3) (ml := ml) Z R.1 R.2.2.1 R.2.1
  have w13 := s_wd13 (L := L) (xs := xs) (d := e + 3) (ml := ml) Z R.1 R.2.2.1 R.2.1
  have y : ∀ {P : Prop}, ¬ pI P = 0 → P := fun h => Classical.not_not.1 (fun q => h (pI_e0.2 q))
  have n : ∀ {P : Prop}, pI P = 0 → ¬ P := fun h => pI_e0.1 h
  have t1 : atP T p < 7 ∨ wdP T 9 p ∨ wdP T 10 p → tcl T p = 1 := fun h => by unfold tcl; rw [if_pos (pB_iff.2 h)]
  have t2 : ¬ (atP T p < 7 ∨ wdP T 9 p ∨ wdP T 10 p) → wdP T 11 p ∨ wdP T 12 p → tcl T p = 2 := fun h h' => by unfold tcl; rw [if_neg (fun q => h (pB_iff.1 q)), if_pos (pB_iff.2 h')]
  have t3 : ¬ (atP T p < 7 ∨ wdP T 9 p ∨ wdP T 10 p) → ¬ (wdP T 11 p ∨ wdP T 12 p) → wdP T 13 p → tcl T p = 3 := fun h h' h'' => by unfold tcl; rw [if_neg (fun q => h (pB_iff.1 q)), if_neg (fun q => h' (pB_iff.1 q)), if_pos (pB_iff.2 h'')]
  have t4 : ¬ (atP T p < 7 ∨ wdP T 9 p ∨ wdP T 10 p) → ¬ (wdP T 11 p ∨ wdP T 12 p) → ¬ wdP T 13 p → tcl T p = (if tK T p = 4 then 4 else 0) := fun h h' h'' => by unfold tcl; rw [if_neg (fun q => h (pB_iff.1 q)), if_neg (fun q => h' (pB_iff.1 q)), if_neg (fun q => h'' (pB_iff.1 q))]
  have h7 := tK_7 T p
  have eK : mi 2 3 = nI (tK T p) := R.2.1.2.1
  refine ⟨fun _ => ⟨_, _, _, s_atom Z R, ?_⟩, fun c => absurd hz c⟩
  rw [aI_m1]
  -- a simple one
  have sm : tcl T p = 1 → (nI x < 6 → ∃ (m2 : cM1) (l2 : cM2), cS (ab_ro L xs) (e + 8) 76 [.ref 5] mi ml none m2 l2 ∧ Q none (ab_G m2 l2)) ∧ (¬ nI x < 6 → ∃ (m2 : cM1) (l2 : cM2), cS (ab_ro L xs) (e + 8) 67 [.ref 5, .int 5] mi ml none m2 l2 ∧ Q none (ab_G m2 l2)) := fun c => ⟨g1 c, f5 (by omega)⟩
  have cn : tcl T p = 2 → (nI x < 6 → ∃ (m2 : cM1) (l2 : cM2), cS (ab_ro L xs) (e + 8) 77 [.ref 5] mi ml none m2 l2 ∧ Q none (ab_G m2 l2)) ∧ (¬ nI x < 6 → ∃ (m2 : cM1) (l2 : cM2), cS (ab_ro L xs) (e + 8) 67 [.ref 5, .int 5] mi ml none m2 l2 ∧ Q none (ab_G m2 l2)) := fun c => ⟨g2 c, f5 (by omega)⟩
  refine ⟨fun ca => ⟨_, _, _, w9, ⟨fun c9 => ⟨_, _, _, w10, ⟨fun c10 => ?_, fun c10 => ?_⟩⟩, fun c9 => ?_⟩⟩, fun ca => ?_⟩
  · have hs : ¬ (atP T p < 7 ∨ wdP T 9 p ∨ wdP T 10 p) := fun h => h.elim ca (fun h => h.elim (n c9) (n c10))
    refine ⟨_, _, _, w11, ⟨fun c11 => ⟨_, _, _, w12, ⟨fun c12 => ?_, fun c12 => ⟨_, _, _, w13, cn (t2 hs (Or.inr (y c12)))⟩⟩⟩, fun c11 => ⟨_, _, _, w13, cn (t2 hs (Or.inl (y c11)))⟩⟩⟩
    have hc : ¬ (wdP T 11 p ∨ wdP T 12 p) := fun h => h.elim (n c11) (n c12)
    refine ⟨_, _, _, w13, ⟨fun c13 => ?_, fun c13 => ?_⟩⟩
    · have t4' := t4 hs hc (n c13)
      rw [eK, xe_4 (by omega)]
      refine ⟨fun k4 => ⟨fun cx => ⟨fun _ => ?_, fun q => absurd c13 q⟩, f5 (by rw [t4', if_pos k4]; decide)⟩, fun k4 => f1 (by rw [t4', if_neg k4])⟩
      obtain ⟨a1, b1, s1, a2, b2, s2, a3, b3, s3, h⟩ := h4 (by rw [t4', if_pos k4]) (by rw [x6 hx] at cx; exact cx)
      rw [e1]
      exact ⟨a1, b1, s1, a2, b2, s2, a3, b3, s3, hQ _ _ h⟩
    · have t3' := t3 hs hc (y c13)
      refine ⟨fun cx => ⟨fun q => absurd q c13, fun _ => ?_⟩, f5 (by omega)⟩
      obtain ⟨a1, b1, s1, a2, b2, s2, h⟩ := h3 t3' (by rw [x6 hx] at cx; exact cx)
      rw [e1]
      exact ⟨a1, b1, s1, a2, b2, s2, hQ _ _ h⟩
  · have hs := sm (t1 (Or.inr (Or.inr (y c10))))
    exact ⟨_, _, _, w11, ⟨fun _ => ⟨_, _, _, w12, ⟨fun _ => ⟨_, _, _, w13, hs⟩, fun _ => ⟨_, _, _, w13, hs⟩⟩⟩, fun _ => ⟨_, _, _, w13, hs⟩⟩⟩
  · have hs := sm (t1 (Or.inr (Or.inl (y c9))))
    exact ⟨_, _, _, w11, ⟨fun _ => ⟨_, _, _, w12, ⟨fun _ => ⟨_, _, _, w13, hs⟩, fun _ => ⟨_, _, _, w13, hs⟩⟩⟩, fun _ => ⟨_, _, _, w13, hs⟩⟩⟩
  · have hs := sm (t1 (Or.inl (Classical.not_not.1 ca)))
    exact ⟨_, _, _, w11, ⟨fun _ => ⟨_, _, _, w12, ⟨fun _ => ⟨_, _, _, w13, hs⟩, fun _ => ⟨_, _, _, w13, hs⟩⟩⟩, fun _ => ⟨_, _, _, w13, hs⟩⟩⟩
theorem PE.n (h0 : ¬ z.1 = 0) (R : RS T z m1) (F : fr rdA rdB mi ml m1 l1) : PE T z lo hi mi ml m1 l1 := ⟨R, fun q => absurd q h0, F⟩
theorem RS.e0 (R : RS T z mi) (h : z.1 = 0) : RS T (0, z.2) mi := ⟨R.1, R.2.1, R.2.2.1, by rw [R.2.2.2.1, h], (by decide : 0 < 2 ^ 20)⟩
theorem fr2u (m : cM2) (a b : Int64) : fr rdA rdB mi m mi (ab_ul (ab_ul m 5 2 a) 5 3 b) := (fr.rf.ul _ rfl).ul _ rfl
theorem fEn.mo {Q : Option Value → ab_S → Prop} (h : fEn T z Q mi ml) (F : fr rdA rdB mi ml m1 l1) : fEn T z Q m1 l1 := fun q m' l' a b R F' => h q m' l' a b R (F.tr F')
theorem gEn.mo {D x : Nat} {a b : Int64} {Q : Option Value → ab_S → Prop} (h : gEn T L xs D Q x a b z mi ml) (F : fr rdA rdB mi ml m1 l1) : gEn T L xs D Q x a b z m1 l1 := fun q m' l' i R F' => h q m' l' i R (F.tr F')
theorem c_stop {D : Nat} {Q : Option Value → ab_S → Prop} {v i : Int32} {a b tl th : Int64} (hQ : Q none (ab_G mi (ab_ul (ab_ul ml 5 2 a) 5 3 b))) : W_X7_saying_21 (cs (ab_ro L xs) D) (ab_ro L xs) Q v a b tl th 0 i mi ml := by
  refine vc_X7_saying_21 _ _ _ _ _ _ _ mi ml ?_
  exact ⟨fun _ => ⟨fun _ => hQ, fun c => absurd rfl c⟩, fun _ => hQ⟩
/-- a round of the loop that meets a fault -/
theorem c_itF {D x i : Nat} {Q : Option Value → ab_S → Prop} {a b tl th : Int64} (hn : i < 1000) (s : cS (ab_ro L xs) D 75 [.ref 5, .int (nI x)] mi ml none m1 l1) (c0 : ¬ z.1 = 0) (R : RS T z m1) (hQ : ∀ a b, Q none (ab_G m1 (ab_ul (ab_ul l1 5 2 a) 5 3 b))) : hdW L xs D Q x a b tl th 1 i mi ml := by
  refine vc_X7_saying_21 _ _ _ _ _ _ _ mi ml ?_
  have hz := R.2.2.2.2
  have z5 : ¬ m1 5 1 = 0 := by rw [R.2.2.2.1, xe_0 (by omega)]; exact c0
  rw [xl_1000 (by omega)]
  exact ⟨fun _ => ⟨fun c => absurd c (by decide), fun _ => ⟨m1, l1, s, ⟨fun c => absurd c z5, fun _ => ⟨fun c => absurd c z5, fun _ => c_stop (hQ _ _)⟩⟩⟩⟩, fun c => absurd hn c⟩
/-- a round of the loop -/
theorem c_it (Z : tOK T) {x p D i : Nat} {s t tl th : Int64} {Q : Option Value → ab_S → Prop} (hx : x ≤ 6) (hD : 3 * (6 - x) + 11 ≤ D) (R : RS T (0, p) mi) (hn : i < 1000) (ih : ptM T L xs x p z lo hi) (hF : fEn T z Q mi ml)
    (hM : z.1 = 0 → ∀ m' l', RS T (0, z.2) m' → fr rdA rdB mi ml m' l' → pEn T L xs D Q x s t (tl &&& lo) (th &&& hi) z.2 i m' l') : hdW L xs D Q x s t tl th 1 i mi ml := by
  obtain ⟨e, rfl⟩ : ∃ e, D = e + 5 := ⟨D - 5, by omega⟩
  obtain ⟨m', l', sp, P⟩ := ih (e + 5) mi ml hx (by omega) R
  by_cases c0 : z.1 = 0
  · have RR := P.1.e0 c0
    have z5 : m' 5 1 = 0 := RR.2.2.2.1
    obtain ⟨H8, H7⟩ := hM c0 m' l' RR P.2.2
    have w8 := s_wd8 (L := L) (xs := xs) (d := e) (ml := l') Z RR.1 RR.2.2.1 RR.2.1
    have w7 := s_wd7 (L := L) (xs := xs) (d := e) (ml := l') Z RR.1 RR.2.2.1 RR.2.1
    obtain ⟨m1, s1, R1, F1⟩ := s_st (ro := ab_ro L xs) (d := e + 4) (ml := l') Z RR
    have y : ∀ {P : Prop}, ¬ pI P = 0 → P := fun h => Classical.not_not.1 (fun q => h (pI_e0.2 q))
    have e1 : nI i + 1 = nI (i + 1) := nI_1 i
    refine vc_X7_saying_21 _ _ _ _ _ _ _ mi ml ?_
    rw [xl_1000 (by omega), e1]
    refine ⟨fun _ => ⟨fun c => absurd c (by decide), fun _ => ⟨m', l', sp, ?_⟩⟩, fun c => absurd hn c⟩
    rw [(P.2.1 c0).1, (P.2.1 c0).2]
    refine ⟨fun _ => ⟨_, m', l', w8, ⟨fun c8 => ⟨fun _ => ⟨_, m', l', w7, ⟨fun c7 => ?_, fun c7 => ?_⟩⟩, fun c => absurd z5 c⟩, fun c8 => ?_⟩⟩, fun c => absurd z5 c⟩
    · exact c_stop ((H7 (pI_e0.1 c8)).2 (pI_e0.1 c7))
    · exact ⟨m1, l', s1, (H7 (pI_e0.1 c8)).1 (y c7) m1 R1 F1⟩
    · exact ⟨m1, l', s1, H8 (y c8) m1 R1 F1⟩
  · exact c_itF hn sp c0 P.1 (fun a b => hF c0 m' l' a b P.1 P.2.2)
end CS
