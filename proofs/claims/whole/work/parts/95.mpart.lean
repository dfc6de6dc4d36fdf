/-! A part of a saying, the reference's side. -/
def PM (T : tSt) (z : Nat × Nat) (lo hi : Int64) (mi : cM1) (ml : cM2) (mi' : cM1) (ml' : cM2) : Prop := RM T z mi' ml' ∧ (z.1 = 0 → ml' 40 10 = lo ∧ ml' 40 11 = hi) ∧ fr mrA mrB mi ml mi' ml'
section MP
variable {ro : ab_E} {d : Nat} {mi mi' m1 m2 : cM1} {ml ml' l1 l2 : cM2} {T : tSt} {z z' : Nat × Nat} {lo hi : Int64}
theorem PM.tr (F : fr mrA mrB mi ml m1 l1) (h : PM T z lo hi m1 l1 m2 l2) : PM T z lo hi mi ml m2 l2 := ⟨h.1, h.2.1, F.tr h.2.2⟩
theorem PM.n (h0 : ¬ z.1 = 0) (R : RM T z m1 l1) (F : fr mrA mrB mi ml m1 l1) : PM T z lo hi mi ml m1 l1 := ⟨R, fun q => absurd q h0, F⟩
theorem RM.cn {x y : Int64} (R : RM T z mi ml) (h : CN ml x y ml') : RM T z mi ml' ∧ fr mrA mrB mi ml mi ml' := by
  have F : fr mrA mrB mi ml mi ml' := ⟨fun _ _ _ => rfl, h.2.2⟩
  exact ⟨R.fl F rfl R.2.1 R.2.2.1 rfl, F⟩
theorem cbL_u {m l f : Nat} {b : Bool} {x y : Int64} (h : cbL m l b f x) (h' : cbL m l b f y) : x = y := b6_ext (fun i hi => by rw [h i hi, h' i hi])
theorem wd_u {p i j : Nat} (hi : i < 15) (hj : j < 15) (h : wdP T i p) (h' : wdP T j p) : i = j := by
  have key : ∀ i, i < 15 → ∀ j, j < 15 → wlen i = wlen j → (∀ k, k < wlen i → ab_sb i k = ab_sb j k) → i = j := by decide +kernel
  refine key i hi j hj (by rw [← h.2.1, ← h'.2.1]) (fun k hk => ?_)
  rw [← h.2.2 k hk, h'.2.2 k (by rw [← h'.2.1, h.2.1]; exact hk)]
theorem at_w {p j : Nat} (hj : j < 15) (h : atP T p < 7) (h' : wdP T j p) : False := by
  have key : ∀ j, j < 15 → 2 ≤ wlen j := by decide +kernel
  have h1 := key j hj
  unfold atP at h
  by_cases q : tK T p = 2 ∧ tE T p - tS T p = 1 ∧ T.2 (tS T p) < 104
  · have := h'.2.1; omega
  · rw [if_neg q] at h; omega
theorem cb_t : cbL 0 0 false 0 (-1) ∧ cbL 0 0 false 64 (-1) ∧ cbL 0 1 false 0 0 ∧ cbL 0 1 false 64 0 := by unfold cbL; decide +kernel
theorem cb_a : ∀ a, a < 7 → cbL (2 ^ a) 1 false 0 (ab_alo a) ∧ cbL (2 ^ a) 1 false 64 (ab_ahi a) := by unfold cbL; decide +kernel
/-- behind the checks: no count -/
def tlS (ro : ab_E) (D : Nat) (Q : Option Value → ab_S → Prop) (x r3 : Int32) (mi : cM1) (ml : cM2) : Prop :=
  ((0 < mi 40 8) → Q none (ab_G mi ml)) ∧ (¬ (0 < mi 40 8) → ∃ (r : Int32) (m1 : cM1) (l1 : cM2), cS ro D 158 [.ref 40, .int 6] mi ml (some (.int r)) m1 l1 ∧ ((r = 0 → ∃ (r' : Int32) (m2 : cM1) (l2 : cM2), cS ro D 157 [.ref 40, .int 40] m1 l1 (some (.int r')) m2 l2 ∧ ((r' = 0 → ∃ (r2 : Int32) (m3 : cM1) (l3 : cM2), cS ro D 155 [.ref 40, .int 5] m2 l2 (some (.int r2)) m3 l3 ∧
    ((r3 < 0 → ((r3 < 0 → ((r2 = 0 → ∃ (m4 : cM1) (l4 : cM2), cS ro D 162 [.ref 40, .int 0, .int 0, .int 0] (ab_ui m3 40 7 (m3 40 7 + 1)) l3 none m4 l4 ∧ Q none (ab_G m4 l4)) ∧ (¬ r2 = 0 → ∃ (m4 : cM1) (l4 : cM2), cS ro D 162 [.ref 40, .int 0, .int 1, .int 0] (ab_ui m3 40 7 (m3 40 7 + 1)) l3 none m4 l4 ∧ Q none (ab_G m4 l4)))) ∧ (¬ r3 < 0 → ∃ (m4 : cM1) (l4 : cM2), cS ro D 162 [.ref 40, .int 0, .int 1, .int 0] (ab_ui m3 40 7 (m3 40 7 + 1)) l3 none m4 l4 ∧ Q none (ab_G m4 l4)))) ∧
     (¬ r3 < 0 → ((r3 < 0 → ((r2 = 0 → ∃ (m4 : cM1) (l4 : cM2), cS ro D 162 [.ref 40, .int ((1 : Int32) <<< (r3 &&& 31)), .int 0, .int 0] (ab_ui m3 40 7 (m3 40 7 + 1)) l3 none m4 l4 ∧ Q none (ab_G m4 l4)) ∧ (¬ r2 = 0 → ∃ (m4 : cM1) (l4 : cM2), cS ro D 162 [.ref 40, .int ((1 : Int32) <<< (r3 &&& 31)), .int 1, .int 0] (ab_ui m3 40 7 (m3 40 7 + 1)) l3 none m4 l4 ∧ Q none (ab_G m4 l4)))) ∧ (¬ r3 < 0 → ∃ (m4 : cM1) (l4 : cM2), cS ro D 162 [.ref 40, .int ((1 : Int32) <<< (r3 &&& 31)), .int 1, .int 0] (ab_ui m3 40 7 (m3 40 7 + 1)) l3 none m4 l4 ∧ Q none (ab_G m4 l4)))))) ∧
    (¬ r' = 0 → ∃ (m4 : cM1) (l4 : cM2), cS ro D 163 [.ref 40, .int (x + 1)] m2 l2 none m4 l4 ∧ ∃ (m5 : cM1) (l5 : cM2), cS ro D 156 [.ref 40, .int 41] m4 l4 none m5 l5 ∧ Q none (ab_G m5 l5)))) ∧
    (¬ r = 0 → ∃ (m4 : cM1) (l4 : cM2), cS ro D 166 [.ref 40, .int (x + 1)] m1 l1 none m4 l4 ∧ Q none (ab_G m4 (ab_ul (ab_ul l4 40 10 ((l4 40 10) ^^^ (-1))) 40 11 ((l4 40 11) ^^^ (-1)))))))
/-- behind the checks: a count -/
def tlC (ro : ab_E) (D : Nat) (Q : Option Value → ab_S → Prop) (x : Int32) (mi : cM1) (ml : cM2) : Prop :=
  ((0 < mi 40 8) → Q none (ab_G mi ml)) ∧ (¬ (0 < mi 40 8) → ∃ (r : Int32) (m1 : cM1) (l1 : cM2), cS ro D 158 [.ref 40, .int 6] mi ml (some (.int r)) m1 l1 ∧ ((r = 0 → ∃ (r' : Int32) (m2 : cM1) (l2 : cM2), cS ro D 157 [.ref 40, .int 40] m1 l1 (some (.int r')) m2 l2 ∧ ((r' = 0 → ∃ (m4 : cM1) (l4 : cM2), cS ro D 168 [.ref 40] m2 l2 none m4 l4 ∧ Q none (ab_G m4 l4)) ∧
    (¬ r' = 0 → ∃ (m4 : cM1) (l4 : cM2), cS ro D 163 [.ref 40, .int (x + 1)] m2 l2 none m4 l4 ∧ ∃ (m5 : cM1) (l5 : cM2), cS ro D 156 [.ref 40, .int 41] m4 l4 none m5 l5 ∧ Q none (ab_G m5 l5)))) ∧
    (¬ r = 0 → ∃ (m4 : cM1) (l4 : cM2), cS ro D 166 [.ref 40, .int (x + 1)] m1 l1 none m4 l4 ∧ Q none (ab_G m4 (ab_ul (ab_ul l4 40 10 ((l4 40 10) ^^^ (-1))) 40 11 ((l4 40 11) ^^^ (-1)))))))
theorem tcl_1 {p : Nat} (h : tcl T p = 1) : atP T p < 7 ∨ wdP T 9 p ∨ wdP T 10 p := by
  unfold tcl at h
  by_cases c : pB (atP T p < 7 ∨ wdP T 9 p ∨ wdP T 10 p) = true
  · exact pB_iff.1 c
  · rw [if_neg c] at h; revert h; (repeat' split) <;> omega
theorem tcl_2 {p : Nat} (h : tcl T p = 2) : wdP T 11 p ∨ wdP T 12 p := by
  unfold tcl at h
  by_cases c : pB (wdP T 11 p ∨ wdP T 12 p) = true
  · exact pB_iff.1 c
  · rw [if_neg c] at h; revert h; (repeat' split) <;> omega
theorem tcl_3 {p : Nat} (h : tcl T p = 3) : wdP T 13 p := by
  unfold tcl at h
  by_cases c : pB (wdP T 13 p) = true
  · exact pB_iff.1 c
  · rw [if_neg c] at h; revert h; (repeat' split) <;> omega
theorem tcl_4 {p : Nat} (h : tcl T p = 4) : tK T p = 4 := by
  unfold tcl at h
  by_cases c : tK T p = 4
  · exact c
  · rw [if_neg c] at h; revert h; (repeat' split) <;> omega
set_option maxHeartbeats 2000000 in
theorem m_tlS {e x p : Nat} {P : cM1 → cM2 → Prop} {Q : Option Value → ab_S → Prop} (Z : tOK T) (hx : x < 6) (R : RM T (0, p) mi ml) (hQ : ∀ mi' ml', P mi' ml' → Q none (ab_G mi' ml'))
    (hc : tcl T p = 1 ∨ tcl T p = 3 ∨ tcl T p = 4)
    (h1 : tcl T p = 1 → ∀ m' l', PM T (0, tE T p) (smL T p) (smH T p) mi ml m' l' → P m' l')
    (h3 : tcl T p = 3 → ∀ m1, RM T (0, tE T p) m1 ml → fr mrA mrB mi ml m1 ml → ∃ m' l', cS ro (e + 3) 166 [.ref 40, .int (nI (x + 1))] m1 ml none m' l' ∧ P m' (ab_ul (ab_ul l' 40 10 ((l' 40 10) ^^^ (-1))) 40 11 ((l' 40 11) ^^^ (-1))))
    (h4 : tcl T p = 4 → ∀ m1, RM T (0, tE T p) m1 ml → fr mrA mrB mi ml m1 ml → ∃ m2 l2, cS ro (e + 3) 163 [.ref 40, .int (nI (x + 1))] m1 ml none m2 l2 ∧ ∃ m' l', cS ro (e + 3) 156 [.ref 40, .int 41] m2 l2 none m' l' ∧ P m' l') :
    tlS ro (e + 3) Q (nI x) (aI (atP T p)) mi ml := by
  have e1 : nI x + 1 = nI (x + 1) := nI_1 x
  have e8 : mi 40 8 = nI 0 := R.2.1
  unfold tlS
  rw [e8, e1]
  refine ⟨fun q => absurd q (by decide), fun _ => ?_⟩
  obtain ⟨a1, s1, R1, F1⟩ := m_hasWord (ro := ro) (d := e + 1) (w := 6) (v := 6) Z rfl (by decide) R
  refine ⟨_, a1, ml, s1, fun c => ?_, fun c => ?_⟩
  · have n13 : ¬ wdP T 13 p := fun h => pI_e0.1 c ⟨rfl, h⟩
    have eh : hwz T (wm 6) (0, p) = (0, p) := by unfold hwz; rw [if_neg (fun h => n13 (pB_iff.1 h.2))]
    rw [eh] at R1
    obtain ⟨a2, s2, R2, F2⟩ := m_hasSign (ro := ro) (d := e + 1) (k := 4) (c := 40) (v := 40) Z rfl (Or.inl ⟨rfl, rfl⟩) R1
    refine ⟨_, a2, ml, s2, fun c4 => ?_, fun c4 => ?_⟩
    · have n4 := pI_e0.1 c4
      rw [if_neg n4] at R2
      have t1 : tcl T p = 1 := by
        rcases hc with h | h | h
        · exact h
        · exact absurd (tcl_3 h) n13
        · exact absurd ⟨rfl, tcl_4 h⟩ n4
      refine ⟨_, a2, ml, m_isWord (w := 5) Z rfl (by decide) R2, ?_⟩
      have R3 := R2.st (tcl_K (by rw [t1]; decide) : ¬ tK T (0, p).2 = 0)
      have F3 : fr mrA mrB mi ml (ab_ui a2 40 7 (a2 40 7 + 1)) ml := (F1.tr F2).ui _ rfl
      have fin : ∀ m l (v w : Int32), v = nI m → w = nI l → m < 128 → l < 100 → cbL m l false 0 (smL T p) → cbL m l false 64 (smH T p) → ∃ (m4 : cM1) (l4 : cM2), cS ro (e + 3) 162 [.ref 40, .int v, .int w, .int 0] (ab_ui a2 40 7 (a2 40 7 + 1)) ml none m4 l4 ∧ Q none (ab_G m4 l4) := fun m l v w hv hw hm hl c1 c2 => by
        obtain ⟨x, y, l', s, hC, q1, q2⟩ := m_counts (ro := ro) (d := e + 1) (mi := ab_ui a2 40 7 (a2 40 7 + 1)) (ml := ml) (b := false) hm hl
        rw [hv, hw]
        have RC := R3.cn hC
        exact ⟨_, l', s, hQ _ _ (h1 t1 _ _ ⟨RC.1, fun _ => ⟨hC.1.trans (cbL_u q1 c1), hC.2.1.trans (cbL_u q2 c2)⟩, F3.tr RC.2⟩)⟩
      rw [aI_l0]
      refine ⟨fun ca => ⟨fun _ => ⟨fun c5 => ?_, fun c5 => ?_⟩, fun q => absurd ca q⟩, fun ca => ⟨fun q => absurd q ca, fun _ => ?_⟩⟩
      · have n10 : ¬ wdP T 10 p := fun h => pI_e0.1 c5 ⟨rfl, h⟩
        have y9 : wdP T 9 p := by
          rcases tcl_1 t1 with h | h | h
          · exact absurd h ca
          · exact h
          · exact absurd h n10
        have eL : smL T p = -1 := by unfold smL; rw [if_neg ca, if_pos (pB_iff.2 y9)]
        have eH : smH T p = -1 := by unfold smH; rw [if_neg ca, if_pos (pB_iff.2 y9)]
        exact fin 0 0 0 0 rfl rfl (by decide) (by decide) (by rw [eL]; exact cb_t.1) (by rw [eH]; exact cb_t.2.1)
      · have y10 : wdP T 10 p := (Classical.not_not.1 (fun h => c5 (pI_e0.2 h))).2
        have n9 : ¬ wdP T 9 p := fun h => absurd (wd_u (by decide) (by decide) h y10) (by decide)
        have eL : smL T p = 0 := by unfold smL; rw [if_neg ca, if_neg (fun h => n9 (pB_iff.1 h))]
        have eH : smH T p = 0 := by unfold smH; rw [if_neg ca, if_neg (fun h => n9 (pB_iff.1 h))]
        exact fin 0 1 0 1 rfl rfl (by decide) (by decide) (by rw [eL]; exact cb_t.2.2.1) (by rw [eH]; exact cb_t.2.2.2)
      · have ca := Classical.not_not.1 ca
        have eL : smL T p = ab_alo (atP T p) := by unfold smL; rw [if_pos ca]
        have eH : smH T p = ab_ahi (atP T p) := by unfold smH; rw [if_pos ca]
        have h27 : 2 ^ atP T p < 128 := Nat.pow_lt_pow_right (m := atP T p) (n := 7) (by decide) ca
        exact fin (2 ^ atP T p) 1 _ 1 (by rw [aI_y ca, bit_n (by omega)]) rfl h27 (by decide) (by rw [eL]; exact (cb_a _ ca).1) (by rw [eH]; exact (cb_a _ ca).2)
    · have y := Classical.not_not.1 (fun h => c4 (pI_e0.2 h))
      rw [if_pos y] at R2
      have k4 : tK T p = 4 := y.2
      have t4 : tcl T p = 4 := by
        rcases hc with h | h | h
        · rcases tcl_1 h with g | g | g
          · have := at_K g; omega
          · have := g.1; omega
          · have := g.1; omega
        · exact absurd (tcl_3 h) n13
        · exact h
      obtain ⟨b1, b2, s3, b3, b4, s4, hP⟩ := h4 t4 a2 R2 (F1.tr F2)
      exact ⟨b1, b2, s3, b3, b4, s4, hQ _ _ hP⟩
  · have y := Classical.not_not.1 (fun h => c (pI_e0.2 h))
    have w13 : wdP T 13 p := y.2
    have eh : hwz T (wm 6) (0, p) = (0, tE T p) := by unfold hwz; rw [if_pos ⟨rfl, pB_iff.2 y.2⟩]; rfl
    rw [eh] at R1
    have t3 : tcl T p = 3 := by
      rcases hc with h | h | h
      · rcases tcl_1 h with g | g | g
        · exact (at_w (by decide) g w13).elim
        · exact absurd (wd_u (by decide) (by decide) g w13) (by decide)
        · exact absurd (wd_u (by decide) (by decide) g w13) (by decide)
      · exact h
      · have := tcl_4 h; have := w13.1; omega
    obtain ⟨b1, b2, s3, hP⟩ := h3 t3 a1 R1 F1
    exact ⟨b1, b2, s3, hQ _ _ hP⟩
theorem m_tlC {e x p : Nat} {P : cM1 → cM2 → Prop} {Q : Option Value → ab_S → Prop} (Z : tOK T) (R : RM T (0, p) mi ml) (hQ : ∀ mi' ml', P mi' ml' → Q none (ab_G mi' ml')) (hc : tcl T p = 2)
    (h2 : ∀ m1, RM T (0, p) m1 ml → fr mrA mrB mi ml m1 ml → ∃ m' l', cS ro (e + 3) 168 [.ref 40] m1 ml none m' l' ∧ P m' l') : tlC ro (e + 3) Q (nI x) mi ml := by
  have e8 : mi 40 8 = nI 0 := R.2.1
  unfold tlC
  rw [e8]
  have w := tcl_2 hc
  have n13 : ¬ wdP T 13 p := fun h => w.elim (fun g => absurd (wd_u (by decide) (by decide) g h) (by decide)) (fun g => absurd (wd_u (by decide) (by decide) g h) (by decide))
  have k2 : tK T p = 2 := w.elim (fun g => g.1) (fun g => g.1)
  refine ⟨fun q => absurd q (by decide), fun _ => ?_⟩
  obtain ⟨a1, s1, R1, F1⟩ := m_hasWord (ro := ro) (d := e + 1) (w := 6) (v := 6) Z rfl (by decide) R
  refine ⟨_, a1, ml, s1, fun c => ?_, fun c => absurd (pI_e0.2 (fun h => n13 h.2)) c⟩
  have eh : hwz T (wm 6) (0, p) = (0, p) := by unfold hwz; rw [if_neg (fun h => n13 (pB_iff.1 h.2))]
  rw [eh] at R1
  obtain ⟨a2, s2, R2, F2⟩ := m_hasSign (ro := ro) (d := e + 1) (k := 4) (c := 40) (v := 40) Z rfl (Or.inl ⟨rfl, rfl⟩) R1
  have n4 : ¬ ((0, p).1 = 0 ∧ tK T (0, p).2 = 4) := fun h => by have : tK T p = 4 := h.2; omega
  rw [if_neg n4] at R2
  refine ⟨_, a2, ml, s2, fun c4 => ?_, fun c4 => absurd (pI_e0.2 n4) c4⟩
  obtain ⟨b1, b2, s3, hP⟩ := h2 a2 R2 (F1.tr F2)
  exact ⟨b1, b2, s3, hQ _ _ hP⟩
end MP
