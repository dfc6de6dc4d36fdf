/-! Cases, grounds, weights. -/
/-- the first place below n with P, or -1 -/
noncomputable def fI (P : Nat → Prop) : Nat → Int32
  | 0 => -1
  | n + 1 => @ite _ (fI P n = -1) (inferInstance) (@ite _ (P n) (Classical.propDecidable _) (nI n) (-1)) (fI P n)
theorem fI_none {P : Nat → Prop} : ∀ {n : Nat}, (∀ j, j < n → ¬ P j) → fI P n = -1
  | 0, _ => rfl
  | n + 1, h => by
    have ih := fI_none (n := n) (fun j hj => h j (by omega))
    show (if fI P n = -1 then _ else _) = _
    rw [if_pos ih, if_neg (h n (by omega))]
theorem fI_hit {P : Nat → Prop} {i : Nat} (hp : P i) (hno : ∀ j, j < i → ¬ P j) : ∀ {n : Nat}, i < n → n < 2 ^ 31 → fI P n = nI i
  | 0, h, _ => absurd h (Nat.not_lt_zero i)
  | n + 1, h, hn => by
    show (if fI P n = -1 then _ else _) = _
    by_cases e : i = n
    · have ih := fI_none (P := P) (n := n) (fun j hj => hno j (by omega))
      rw [if_pos ih, ← e, if_pos hp]
    · have ih := fI_hit hp hno (n := n) (by omega) (by omega)
      rw [ih, if_neg (by rw [xe_m1 (by omega)]; exact id)]
theorem fI_congr {P Q : Nat → Prop} : ∀ {n : Nat}, (∀ i, i < n → (P i ↔ Q i)) → fI P n = fI Q n
  | 0, _ => rfl
  | n + 1, h => by
    show (if fI P n = -1 then _ else _) = (if fI Q n = -1 then _ else _)
    rw [fI_congr (n := n) (fun i hi => h i (by omega)), propext (h n (by omega))]
theorem fI_m1 {P : Nat → Prop} {n : Nat} (hn : n < 2 ^ 31) : (fI P n = -1) = (∀ j, j < n → ¬ P j) := by
  apply propext
  constructor
  · intro h
    apply Classical.byContradiction
    intro hc
    have ⟨i, hi, hp⟩ : ∃ i, i < n ∧ P i := Classical.byContradiction (fun q => hc (fun j hj hp => q ⟨j, hj, hp⟩))
    have : ∃ k, P k ∧ k < n ∧ ∀ j, j < k → ¬ P j := by
      have hh : ∀ m k, k < m → P k → k < n → ∃ k, P k ∧ k < n ∧ ∀ j, j < k → ¬ P j := by
        intro m
        induction m with
        | zero => intro k hk; exact absurd hk (Nat.not_lt_zero k)
        | succ m ih =>
          intro k hk hp hkn
          by_cases q : ∃ j, j < k ∧ P j
          · obtain ⟨j, hj, hpj⟩ := q
            exact ih j (by omega) hpj (by omega)
          · exact ⟨k, hp, hkn, fun j hj hpj => q ⟨j, hj, hpj⟩⟩
      exact hh (i + 1) i (by omega) hp hi
    obtain ⟨k, h1, h2, h3⟩ := this
    rw [fI_hit h1 h3 h2 hn, xe_m1 (by omega)] at h
    exact h
  · exact fun h => fI_none h
theorem pcn_cut {f : Nat → Bool} {m : Nat} : ∀ {n : Nat}, m ≤ n → (∀ i, m ≤ i → i < n → f i = false) → pcn f n = pcn f m
  | 0, h, _ => by rw [show m = 0 by omega]
  | n + 1, h, hf => by
    by_cases e : m = n + 1
    · rw [e]
    · rw [← pcn_s0 (hf n (by omega) (by omega))]
      exact pcn_cut (by omega) (fun i h1 h2 => hf i h1 (by omega))
theorem pcn_pos {f : Nat → Bool} : ∀ {n : Nat}, (0 < pcn f n) ↔ ∃ i, i < n ∧ f i = true
  | 0 => by simp [pcn]
  | n + 1 => by
    show 0 < pcn f n + (f n).toNat ↔ _
    have ih := pcn_pos (f := f) (n := n)
    constructor
    · intro h
      by_cases q : 0 < pcn f n
      · obtain ⟨i, h1, h2⟩ := ih.1 q
        exact ⟨i, by omega, h2⟩
      · refine ⟨n, by omega, ?_⟩
        cases hf : f n with
        | true => rfl
        | false => rw [hf] at h; exact absurd (show 0 < pcn f n from h) q
    · rintro ⟨i, h1, h2⟩
      rcases Nat.lt_or_eq_of_le (Nat.le_of_lt_succ h1) with h | h
      · have := ih.2 ⟨i, h, h2⟩
        omega
      · rw [← h, h2]; simp
def wB (a b : Int64) (w : Nat) : Bool := if w < 64 then b6 a w else b6 b (w - 64)
def csP (ti : cM1) (c : Nat) : Prop := ¬ cSeen ti < ti 20 c
def agP (ti : cM1) (tl : cM2) (g c : Nat) : Prop := csP ti c ∧ wB (tl 22 g) (tl 23 g) (ti 19 c).toNatClampNeg = false
def hoP (ti : cM1) (tl : cM2) (g : Nat) : Prop := (∃ c, c < nC ti ∧ csP ti c) ∧ ∀ c, c < nC ti → ¬ agP ti tl g c
noncomputable def hanN (ti : cM1) (tl : cM2) (x : Int32) : Nat := pcn (fun p => pB (∃ w, w < nW ti ∧ ofG ti tl w = x ∧ ti 15 w = nI p)) 100
noncomputable def houN (ti : cM1) (tl : cM2) (x : Int32) : Nat := pcn (fun h => pB (∃ w, w < nW ti ∧ ofG ti tl w = x ∧ ti 24 (ti 15 w).toNatClampNeg = nI h)) 7
noncomputable def reaN (ti : cM1) (tl : cM2) (g : Nat) : Nat := pcn (b6 (oA tl (fun p => decide (p < nL ti)) ^^^ oA tl (lawS ti tl (fun i => decide (i = g))))) 64 + pcn (b6 (oB tl (fun p => decide (p < nL ti)) ^^^ oB tl (lawS ti tl (fun i => decide (i = g))))) 64
noncomputable def groN (ti : cM1) (tl : cM2) (x : Int32) : Nat := pcn (fun k => pB (ofG ti tl (ti 21 k).toNatClampNeg = x ∧ hoP ti tl k)) (nR ti)
noncomputable def wei (ti : cM1) (tl : cM2) (wt g : Nat) : Nat := if wt = 0 then hanN ti tl (nI g) else if wt = 1 then houN ti tl (nI g) else if wt = 2 then reaN ti tl g else groN ti tl (nI g)
theorem wei_le (ti : cM1) (tl : cM2) (O : okT ti) (wt g : Nat) : wei ti tl wt g ≤ 128 := by
  unfold wei
  have h1 := pcn_le (fun p => pB (∃ w, w < nW ti ∧ ofG ti tl w = nI g ∧ ti 15 w = nI p)) 100
  have h2 := pcn_le (fun h => pB (∃ w, w < nW ti ∧ ofG ti tl w = nI g ∧ ti 24 (ti 15 w).toNatClampNeg = nI h)) 7
  have h3 := pcn_le (b6 (oA tl (fun p => decide (p < nL ti)) ^^^ oA tl (lawS ti tl (fun i => decide (i = g))))) 64
  have h4 := pcn_le (b6 (oB tl (fun p => decide (p < nL ti)) ^^^ oB tl (lawS ti tl (fun i => decide (i = g))))) 64
  have h5 := pcn_le (fun k => pB (ofG ti tl (ti 21 k).toNatClampNeg = nI g ∧ hoP ti tl k)) (nR ti)
  have h6 := O.R2
  split
  · unfold hanN; omega
  · split
    · unfold houN; omega
    · split
      · unfold reaN; omega
      · unfold groN; omega
section WE
variable {ro : ab_E} {d : Nat} {ti mi : cM1} {tl ml : cM2}
theorem s_cSeenOn (O : okT ti) (H : eqP ti tl mi ml) : cS ro (d + 1) 17 [.ref 18, .int (cSeen ti)] mi ml (some (.int (nI (pcn (fun c => pB (csP ti c)) (nC ti))))) mi ml := by
  have hC := O.C2
  refine ab_sem_q rfl rfl (fun Q hQ => vc_X2_seenOn_0 _ mi ml ?_)
  refine up0 (n := nC ti) (F := fun i => W_X2_seenOn_4 (cs ro d) ro Q (cSeen ti) (nI (pcn (fun c => pB (csP ti c)) i)) (nI i) mi ml) (fun i hi ih => ?_) ?_
  · refine vc_X2_seenOn_4 _ _ _ mi ml ?_
    simp (disch := omega) only [H.e182, H.e20, O.C, hi, nI_ltI, nI_eq, nI_clamp, nI_1, xl_0, xg_0, xe_0, xe_m1, nI_0, xl_1, xl_2, xl_3, xl_4, xl_5, xl_6, xl_7, xl_8, xl_9, xl_10, xl_12, xl_20, xl_30, xl_32, xl_40, xl_41, xl_42, xl_48, xl_57, xl_59, xl_64, xl_97, xl_100, xl_122, xl_126, xl_128, xl_1000, xl_9999, xg_1, xg_2, xg_3, xg_4, xg_5, xg_6, xg_7, xg_8, xg_9, xg_10, xg_12, xg_20, xg_30, xg_32, xg_40, xg_41, xg_42, xg_48, xg_57, xg_59, xg_64, xg_97, xg_100, xg_122, xg_126, xg_128, xg_1000, xg_9999, xe_1, xe_2, xe_3, xe_4, xe_5, xe_6, xe_7, xe_8, xe_9, xe_10, xe_12, xe_20, xe_30, xe_32, xe_40, xe_41, xe_42, xe_48, xe_57, xe_59, xe_64, xe_97, xe_100, xe_122, xe_126, xe_128, xe_1000, xe_9999, true_implies, false_implies, not_true_eq_false, not_false_eq_true, and_true, true_and, forall_const, imp_self, lc_eq, implies_true, vin, Bool.true_eq_false, Bool.false_eq_true, false_and, and_false, or_false, false_or, or_true, true_or]
    refine ⟨fun c => ?_, fun c => ?_⟩
    · rw [pcn_s0 (f := fun c => pB (csP ti c)) (n := i) (pB_f.2 (fun h => h c))]; exact ih
    · rw [pcn_s1 (f := fun c => pB (csP ti c)) (n := i) (pB_iff.2 c)]; exact ih
  · refine vc_X2_seenOn_4 _ _ _ mi ml ?_
    simp (disch := omega) only [H.e182, O.C, Nat.lt_irrefl, nI_ltI, nI_eq, nI_clamp, nI_1, xl_0, xg_0, xe_0, xe_m1, nI_0, xl_1, xl_2, xl_3, xl_4, xl_5, xl_6, xl_7, xl_8, xl_9, xl_10, xl_12, xl_20, xl_30, xl_32, xl_40, xl_41, xl_42, xl_48, xl_57, xl_59, xl_64, xl_97, xl_100, xl_122, xl_126, xl_128, xl_1000, xl_9999, xg_1, xg_2, xg_3, xg_4, xg_5, xg_6, xg_7, xg_8, xg_9, xg_10, xg_12, xg_20, xg_30, xg_32, xg_40, xg_41, xg_42, xg_48, xg_57, xg_59, xg_64, xg_97, xg_100, xg_122, xg_126, xg_128, xg_1000, xg_9999, xe_1, xe_2, xe_3, xe_4, xe_5, xe_6, xe_7, xe_8, xe_9, xe_10, xe_12, xe_20, xe_30, xe_32, xe_40, xe_41, xe_42, xe_48, xe_57, xe_59, xe_64, xe_97, xe_100, xe_122, xe_126, xe_128, xe_1000, xe_9999, true_implies, false_implies, not_true_eq_false, not_false_eq_true, and_true, true_and, forall_const, imp_self, lc_eq, implies_true, vin, Bool.true_eq_false, Bool.false_eq_true, false_and, and_false, or_false, false_or, or_true, true_or]
    exact hQ
theorem bI_0 (b : Bool) : (bI b = 0) = (b = false) := by cases b <;> simp [bI]
theorem s_firstAgainst (O : okT ti) (H : eqP ti tl mi ml) {g : Nat} (hg : g < nR ti) : cS ro (d + 2) 18 [.ref 18, .int (nI g), .int (cSeen ti)] mi ml (some (.int (fI (agP ti tl g) (nC ti)))) mi ml := by
  have hC := O.C2
  have hR := O.R2
  refine ab_sem_q rfl rfl (fun Q hQ => vc_X2_firstAgainst_0 _ _ mi ml ?_)
  refine up0 (n := nC ti) (F := fun i => (∀ j, j < i → ¬ agP ti tl g j) → W_X2_firstAgainst_2 (cs ro (d + 1)) ro Q (nI g) (cSeen ti) (nI i) mi ml) (fun i hi ih hno => ?_) (fun hno => ?_) (fun j hj => absurd hj (Nat.not_lt_zero j))
  · refine vc_X2_firstAgainst_2 _ _ _ mi ml ?_
    obtain ⟨⟨x, hx, ex⟩, _⟩ := O.c i hi
    have hn : ¬ agP ti tl g i → ∀ j, j < i + 1 → ¬ agP ti tl g j := fun h j hj => by
      rcases Nat.lt_or_eq_of_le (Nat.le_of_lt_succ hj) with q | q
      · exact hno j q
      · rw [q]; exact h
    simp (disch := omega) only [H.e182, H.e20, H.e19, H.f22, H.f23, O.C, hi, ex, nI_ltI, nI_eq, nI_clamp, nI_1, xl_0, xg_0, xe_0, xe_m1, nI_0, xl_1, xl_2, xl_3, xl_4, xl_5, xl_6, xl_7, xl_8, xl_9, xl_10, xl_12, xl_20, xl_30, xl_32, xl_40, xl_41, xl_42, xl_48, xl_57, xl_59, xl_64, xl_97, xl_100, xl_122, xl_126, xl_128, xl_1000, xl_9999, xg_1, xg_2, xg_3, xg_4, xg_5, xg_6, xg_7, xg_8, xg_9, xg_10, xg_12, xg_20, xg_30, xg_32, xg_40, xg_41, xg_42, xg_48, xg_57, xg_59, xg_64, xg_97, xg_100, xg_122, xg_126, xg_128, xg_1000, xg_9999, xe_1, xe_2, xe_3, xe_4, xe_5, xe_6, xe_7, xe_8, xe_9, xe_10, xe_12, xe_20, xe_30, xe_32, xe_40, xe_41, xe_42, xe_48, xe_57, xe_59, xe_64, xe_97, xe_100, xe_122, xe_126, xe_128, xe_1000, xe_9999, true_implies, false_implies, not_true_eq_false, not_false_eq_true, and_true, true_and, forall_const, imp_self, lc_eq, implies_true, vin, Bool.true_eq_false, Bool.false_eq_true, false_and, and_false, or_false, false_or, or_true, true_or]
    refine ⟨fun c => ih (hn (fun h => h.1 c)), fun c => ⟨_, _, _, s_isSo _ _ hx, ?_⟩⟩
    rw [bI_0]
    have e : (if x < 64 then b6 (tl 22 g) x else b6 (tl 23 g) (x - 64)) = wB (tl 22 g) (tl 23 g) (ti 19 i).toNatClampNeg := by
      rw [ex, nI_clamp (by omega)]; rfl
    rw [e]
    refine ⟨fun c2 => ?_, fun c2 => ih (hn (fun h => c2 h.2))⟩
    rw [fI_hit (P := agP ti tl g) ⟨c, c2⟩ hno hi (by omega)] at hQ
    exact hQ
  · refine vc_X2_firstAgainst_2 _ _ _ mi ml ?_
    simp (disch := omega) only [H.e182, O.C, Nat.lt_irrefl, nI_ltI, nI_eq, nI_clamp, nI_1, xl_0, xg_0, xe_0, xe_m1, nI_0, xl_1, xl_2, xl_3, xl_4, xl_5, xl_6, xl_7, xl_8, xl_9, xl_10, xl_12, xl_20, xl_30, xl_32, xl_40, xl_41, xl_42, xl_48, xl_57, xl_59, xl_64, xl_97, xl_100, xl_122, xl_126, xl_128, xl_1000, xl_9999, xg_1, xg_2, xg_3, xg_4, xg_5, xg_6, xg_7, xg_8, xg_9, xg_10, xg_12, xg_20, xg_30, xg_32, xg_40, xg_41, xg_42, xg_48, xg_57, xg_59, xg_64, xg_97, xg_100, xg_122, xg_126, xg_128, xg_1000, xg_9999, xe_1, xe_2, xe_3, xe_4, xe_5, xe_6, xe_7, xe_8, xe_9, xe_10, xe_12, xe_20, xe_30, xe_32, xe_40, xe_41, xe_42, xe_48, xe_57, xe_59, xe_64, xe_97, xe_100, xe_122, xe_126, xe_128, xe_1000, xe_9999, true_implies, false_implies, not_true_eq_false, not_false_eq_true, and_true, true_and, forall_const, imp_self, lc_eq, implies_true, vin, Bool.true_eq_false, Bool.false_eq_true, false_and, and_false, or_false, false_or, or_true, true_or]
    rw [fI_none hno] at hQ
    exact hQ
theorem s_holds (O : okT ti) (H : eqP ti tl mi ml) {g : Nat} (hg : g < nR ti) : cS ro (d + 3) 19 [.ref 18, .int (nI g), .int (cSeen ti)] mi ml (some (.int (pI (hoP ti tl g)))) mi ml := by
  have hC := O.C2
  have hle := pcn_le (fun c => pB (csP ti c)) (nC ti)
  refine ab_sem_q rfl rfl (fun Q hQ => vc_X2_holds_0 _ _ mi ml ⟨_, _, _, s_cSeenOn O H, ?_⟩)
  rw [xg_0 (by omega), pcn_pos]
  refine ⟨fun c => ⟨_, _, _, s_firstAgainst O H hg, ?_⟩, fun c => ?_⟩
  · rw [fI_m1 (by omega)]
    obtain ⟨i, h1, h2⟩ := c
    rw [pB_iff] at h2
    refine ⟨fun c2 => ?_, fun c2 => ?_⟩
    · rw [pI_1 ⟨⟨i, h1, h2⟩, c2⟩] at hQ; exact hQ
    · rw [pI_0 (fun h => c2 h.2)] at hQ; exact hQ
  · rw [pI_0] at hQ
    · exact hQ
    · rintro ⟨⟨i, h1, h2⟩, _⟩
      exact c ⟨i, h1, pB_iff.2 h2⟩
theorem s_groundsHeld (O : okT ti) (C : cP ti tl mi ml) (x : Int32) : cS ro (d + 4) 94 [.ref 33, .int x, .int (cSeen ti)] mi ml (some (.int (nI (groN ti tl x)))) mi ml := by
  have hR := O.R2
  have hW := O.W2
  have H := C.1
  refine ab_sem_q rfl rfl (fun Q hQ => vc_X9_groundsHeld_0 _ _ mi ml ?_)
  unfold groN at hQ
  refine up0 (n := nR ti) (F := fun i => W_X9_groundsHeld_5 (cs ro (d + 3)) ro Q x (cSeen ti) (nI (pcn (fun k => pB (ofG ti tl (ti 21 k).toNatClampNeg = x ∧ hoP ti tl k)) i)) (nI i) mi ml) (fun i hi ih => ?_) ?_
  · refine vc_X9_groundsHeld_5 _ _ _ _ mi ml ?_
    obtain ⟨w, hw, ew⟩ := O.g i hi
    simp (disch := omega) only [H.e186, H.e21, O.R, hi, ew, C.2.1.2.1 w hw, nI_ltI, nI_eq, nI_clamp, nI_1, xl_0, xg_0, xe_0, xe_m1, nI_0, xl_1, xl_2, xl_3, xl_4, xl_5, xl_6, xl_7, xl_8, xl_9, xl_10, xl_12, xl_20, xl_30, xl_32, xl_40, xl_41, xl_42, xl_48, xl_57, xl_59, xl_64, xl_97, xl_100, xl_122, xl_126, xl_128, xl_1000, xl_9999, xg_1, xg_2, xg_3, xg_4, xg_5, xg_6, xg_7, xg_8, xg_9, xg_10, xg_12, xg_20, xg_30, xg_32, xg_40, xg_41, xg_42, xg_48, xg_57, xg_59, xg_64, xg_97, xg_100, xg_122, xg_126, xg_128, xg_1000, xg_9999, xe_1, xe_2, xe_3, xe_4, xe_5, xe_6, xe_7, xe_8, xe_9, xe_10, xe_12, xe_20, xe_30, xe_32, xe_40, xe_41, xe_42, xe_48, xe_57, xe_59, xe_64, xe_97, xe_100, xe_122, xe_126, xe_128, xe_1000, xe_9999, true_implies, false_implies, not_true_eq_false, not_false_eq_true, and_true, true_and, forall_const, imp_self, lc_eq, implies_true, vin, Bool.true_eq_false, Bool.false_eq_true, false_and, and_false, or_false, false_or, or_true, true_or]
    refine ⟨fun c => ⟨_, _, _, s_holds O H hi, ?_⟩, fun c => ?_⟩
    · rw [pI_e0]
      refine ⟨fun c2 => ?_, fun c2 => ?_⟩
      · rw [pcn_s0 (f := fun k => pB (ofG ti tl (ti 21 k).toNatClampNeg = x ∧ hoP ti tl k)) (n := i) (pB_f.2 (fun h => c2 h.2))]; exact ih
      · rw [pcn_s1 (f := fun k => pB (ofG ti tl (ti 21 k).toNatClampNeg = x ∧ hoP ti tl k)) (n := i) (pB_iff.2 ⟨by rw [ew, nI_clamp (by omega)]; exact c, Classical.not_not.1 c2⟩)]; exact ih
    · rw [pcn_s0 (f := fun k => pB (ofG ti tl (ti 21 k).toNatClampNeg = x ∧ hoP ti tl k)) (n := i) (pB_f.2 (fun h => c (by have := h.1; rw [ew, nI_clamp (by omega)] at this; exact this)))]; exact ih
  · refine vc_X9_groundsHeld_5 _ _ _ _ mi ml ?_
    simp (disch := omega) only [H.e186, O.R, Nat.lt_irrefl, nI_ltI, nI_eq, nI_clamp, nI_1, xl_0, xg_0, xe_0, xe_m1, nI_0, xl_1, xl_2, xl_3, xl_4, xl_5, xl_6, xl_7, xl_8, xl_9, xl_10, xl_12, xl_20, xl_30, xl_32, xl_40, xl_41, xl_42, xl_48, xl_57, xl_59, xl_64, xl_97, xl_100, xl_122, xl_126, xl_128, xl_1000, xl_9999, xg_1, xg_2, xg_3, xg_4, xg_5, xg_6, xg_7, xg_8, xg_9, xg_10, xg_12, xg_20, xg_30, xg_32, xg_40, xg_41, xg_42, xg_48, xg_57, xg_59, xg_64, xg_97, xg_100, xg_122, xg_126, xg_128, xg_1000, xg_9999, xe_1, xe_2, xe_3, xe_4, xe_5, xe_6, xe_7, xe_8, xe_9, xe_10, xe_12, xe_20, xe_30, xe_32, xe_40, xe_41, xe_42, xe_48, xe_57, xe_59, xe_64, xe_97, xe_100, xe_122, xe_126, xe_128, xe_1000, xe_9999, true_implies, false_implies, not_true_eq_false, not_false_eq_true, and_true, true_and, forall_const, imp_self, lc_eq, implies_true, vin, Bool.true_eq_false, Bool.false_eq_true, false_and, and_false, or_false, false_or, or_true, true_or]
    exact hQ
theorem s_houses (O : okT ti) (C : cP ti tl mi ml) (x : Int32) : cS ro (d + 2) 92 [.ref 33, .int x] mi ml (some (.int (nI (houN ti tl x)))) mi ml := by
  have hW := O.W2
  have H := C.1
  refine ab_sem_q rfl rfl (fun Q hQ => vc_X9_houses_0 _ mi ml ?_)
  refine up0 (n := nW ti) (F := fun i => ∀ r, (∀ h, b3 r h = pB (∃ w, w < i ∧ ofG ti tl w = x ∧ ti 24 (ti 15 w).toNatClampNeg = nI h ∧ h < 7)) → W_X9_houses_4 (cs ro (d + 1)) ro Q x r (nI i) mi ml) (fun i hi ih r hr => ?_) (fun r hr => ?_) 0 (fun h => ?_)
  · refine vc_X9_houses_4 _ _ _ mi ml ?_
    obtain ⟨_, _, ⟨p, hp, ep⟩, _⟩ := O.w i hi
    obtain ⟨h0, hh0, eh⟩ := O.h p hp
    simp (disch := omega) only [H.e125, H.e15, H.e24, O.W, hi, ep, eh, C.2.1.2.1 i hi, nI_ltI, nI_eq, nI_clamp, nI_1, xl_0, xg_0, xe_0, xe_m1, nI_0, xl_1, xl_2, xl_3, xl_4, xl_5, xl_6, xl_7, xl_8, xl_9, xl_10, xl_12, xl_20, xl_30, xl_32, xl_40, xl_41, xl_42, xl_48, xl_57, xl_59, xl_64, xl_97, xl_100, xl_122, xl_126, xl_128, xl_1000, xl_9999, xg_1, xg_2, xg_3, xg_4, xg_5, xg_6, xg_7, xg_8, xg_9, xg_10, xg_12, xg_20, xg_30, xg_32, xg_40, xg_41, xg_42, xg_48, xg_57, xg_59, xg_64, xg_97, xg_100, xg_122, xg_126, xg_128, xg_1000, xg_9999, xe_1, xe_2, xe_3, xe_4, xe_5, xe_6, xe_7, xe_8, xe_9, xe_10, xe_12, xe_20, xe_30, xe_32, xe_40, xe_41, xe_42, xe_48, xe_57, xe_59, xe_64, xe_97, xe_100, xe_122, xe_126, xe_128, xe_1000, xe_9999, true_implies, false_implies, not_true_eq_false, not_false_eq_true, and_true, true_and, forall_const, imp_self, lc_eq, implies_true, vin, Bool.true_eq_false, Bool.false_eq_true, false_and, and_false, or_false, false_or, or_true, true_or]
    refine ⟨fun c => ih _ (fun h => ?_), fun c => ih _ (fun h => ?_)⟩
    · rw [b3_orbit _ (by omega), hr]
      apply pB_eq
      rw [Bool.or_eq_true, pB_iff, decide_eq_true_iff]
      constructor
      · rintro (⟨w, h1, h2⟩ | q)
        · exact ⟨w, by omega, h2⟩
        · exact ⟨i, by omega, c, by rw [ep, nI_clamp (by omega), eh, q], by omega⟩
      · rintro ⟨w, h1, h2, h3, h4⟩
        rcases Nat.lt_or_eq_of_le (Nat.le_of_lt_succ h1) with q | q
        · exact Or.inl ⟨w, q, h2, h3, h4⟩
        · rw [q, ep, nI_clamp (by omega), eh, nI_eq (by omega) (by omega)] at h3
          exact Or.inr h3.symm
    · rw [hr]
      apply pB_congr
      constructor
      · rintro ⟨w, h1, h2⟩; exact ⟨w, by omega, h2⟩
      · rintro ⟨w, h1, h2⟩
        rcases Nat.lt_or_eq_of_le (Nat.le_of_lt_succ h1) with q | q
        · exact ⟨w, q, h2⟩
        · rw [q] at h2; exact absurd h2.1 c
  · refine vc_X9_houses_4 _ _ _ mi ml ?_
    simp (disch := omega) only [H.e125, O.W, Nat.lt_irrefl, nI_ltI, nI_eq, nI_clamp, nI_1, xl_0, xg_0, xe_0, xe_m1, nI_0, xl_1, xl_2, xl_3, xl_4, xl_5, xl_6, xl_7, xl_8, xl_9, xl_10, xl_12, xl_20, xl_30, xl_32, xl_40, xl_41, xl_42, xl_48, xl_57, xl_59, xl_64, xl_97, xl_100, xl_122, xl_126, xl_128, xl_1000, xl_9999, xg_1, xg_2, xg_3, xg_4, xg_5, xg_6, xg_7, xg_8, xg_9, xg_10, xg_12, xg_20, xg_30, xg_32, xg_40, xg_41, xg_42, xg_48, xg_57, xg_59, xg_64, xg_97, xg_100, xg_122, xg_126, xg_128, xg_1000, xg_9999, xe_1, xe_2, xe_3, xe_4, xe_5, xe_6, xe_7, xe_8, xe_9, xe_10, xe_12, xe_20, xe_30, xe_32, xe_40, xe_41, xe_42, xe_48, xe_57, xe_59, xe_64, xe_97, xe_100, xe_122, xe_126, xe_128, xe_1000, xe_9999, true_implies, false_implies, not_true_eq_false, not_false_eq_true, and_true, true_and, forall_const, imp_self, lc_eq, implies_true, vin, Bool.true_eq_false, Bool.false_eq_true, false_and, and_false, or_false, false_or, or_true, true_or]
    refine ⟨_, _, _, s_bc3 r, ?_⟩
    have e : pcn (b3 r) 32 = houN ti tl x := by
      unfold houN
      rw [pcn_cut (m := 7) (by decide) (fun i h1 h2 => by rw [hr, pB_f]; rintro ⟨w, _, _, _, h⟩; omega)]
      apply pcn_congr
      intro i hi
      rw [hr]
      apply pB_congr
      constructor
      · rintro ⟨w, h1, h2, h3, _⟩; exact ⟨w, h1, h2, h3⟩
      · rintro ⟨w, h1, h2, h3⟩; exact ⟨w, h1, h2, h3, hi⟩
    rw [e]
    exact hQ
  · rw [b3_0, eq_comm, pB_f]
    rintro ⟨w, h1, _⟩
    exact absurd h1 (Nat.not_lt_zero _)
theorem s_hands (O : okT ti) (C : cP ti tl mi ml) (x : Int32) : cS ro (d + 2) 91 [.ref 33, .int x] mi ml (some (.int (nI (hanN ti tl x)))) mi ml := by
  have hW := O.W2
  have H := C.1
  refine ab_sem_q rfl rfl (fun Q hQ => vc_X9_hands_0 _ mi ml ?_)
  refine up0 (n := nW ti) (F := fun i => ∀ a b, (∀ p, p < 64 → b6 a p = pB (∃ w, w < i ∧ ofG ti tl w = x ∧ ti 15 w = nI p)) → (∀ p, p < 64 → b6 b p = pB (∃ w, w < i ∧ ofG ti tl w = x ∧ ti 15 w = nI (64 + p))) → W_X9_hands_8 (cs ro (d + 1)) ro Q x a b (nI i) mi ml) (fun i hi ih a b ha hb => ?_) (fun a b ha hb => ?_) 0 0 (fun p hp => ?_) (fun p hp => ?_)
  · refine vc_X9_hands_8 _ _ _ _ mi ml ?_
    obtain ⟨_, _, ⟨p, hp, ep⟩, _⟩ := O.w i hi
    simp (disch := omega) only [H.e125, H.e15, O.W, hi, ep, C.2.1.2.1 i hi, nI_ltI, nI_eq, nI_clamp, nI_1, xl_0, xg_0, xe_0, xe_m1, nI_0, xl_1, xl_2, xl_3, xl_4, xl_5, xl_6, xl_7, xl_8, xl_9, xl_10, xl_12, xl_20, xl_30, xl_32, xl_40, xl_41, xl_42, xl_48, xl_57, xl_59, xl_64, xl_97, xl_100, xl_122, xl_126, xl_128, xl_1000, xl_9999, xg_1, xg_2, xg_3, xg_4, xg_5, xg_6, xg_7, xg_8, xg_9, xg_10, xg_12, xg_20, xg_30, xg_32, xg_40, xg_41, xg_42, xg_48, xg_57, xg_59, xg_64, xg_97, xg_100, xg_122, xg_126, xg_128, xg_1000, xg_9999, xe_1, xe_2, xe_3, xe_4, xe_5, xe_6, xe_7, xe_8, xe_9, xe_10, xe_12, xe_20, xe_30, xe_32, xe_40, xe_41, xe_42, xe_48, xe_57, xe_59, xe_64, xe_97, xe_100, xe_122, xe_126, xe_128, xe_1000, xe_9999, true_implies, false_implies, not_true_eq_false, not_false_eq_true, and_true, true_and, forall_const, imp_self, lc_eq, implies_true, vin, Bool.true_eq_false, Bool.false_eq_true, false_and, and_false, or_false, false_or, or_true, true_or]
    have old : ∀ q, ¬ nI p = nI q → pB (∃ w, w < i ∧ ofG ti tl w = x ∧ ti 15 w = nI q) = pB (∃ w, w < i + 1 ∧ ofG ti tl w = x ∧ ti 15 w = nI q) := fun q hq => by
      apply pB_congr
      constructor
      · rintro ⟨w, h1, h2⟩; exact ⟨w, by omega, h2⟩
      · rintro ⟨w, h1, h2, h3⟩
        rcases Nat.lt_or_eq_of_le (Nat.le_of_lt_succ h1) with e | e
        · exact ⟨w, e, h2, h3⟩
        · rw [e, ep] at h3; exact absurd h3 hq
    by_cases c : ofG ti tl i = x
    · have new : ∀ q, nI p = nI q → pB (∃ w, w < i + 1 ∧ ofG ti tl w = x ∧ ti 15 w = nI q) = true := fun q hq => pB_iff.2 ⟨i, by omega, c, by rw [ep, hq]⟩
      have hne : ∀ q, q < 2 ^ 31 → ¬ q = p → ¬ nI p = nI q := fun q hq h e => h ((nI_eq (by omega) hq).1 e).symm
      by_cases c2 : p < 64
      · simp only [c, c2, true_implies, not_true_eq_false, false_implies, and_true, xl_64 (show p < 2 ^ 31 by omega)]
        refine ih _ _ (fun q hq => ?_) (fun q hq => ?_)
        · rw [b6_orbit _ c2, ha q hq]
          by_cases e : q = p
          · rw [e, new p rfl]; simp
          · rw [old q (hne q (by omega) e)]; simp [e]
        · rw [hb q hq, old (64 + q) (hne _ (by omega) (by omega))]
      · have e64 : nI p - 64 = nI (p - 64) := nI_m (b := 64) (by omega)
        simp only [c, c2, true_implies, not_true_eq_false, false_implies, and_true, true_and, not_false_eq_true, e64, xl_64 (show p < 2 ^ 31 by omega)]
        refine ih _ _ (fun q hq => ?_) (fun q hq => ?_)
        · rw [ha q hq, old q (hne _ (by omega) (by omega))]
        · rw [b6_orbit _ (by omega), hb q hq]
          by_cases e : q = p - 64
          · rw [new (64 + q) (by rw [e]; congr 1; omega)]; simp [e]
          · rw [old (64 + q) (hne _ (by omega) (by omega))]; simp [e]
    · simp only [c, false_implies, true_implies, not_false_eq_true, true_and]
      have old2 : ∀ q, pB (∃ w, w < i ∧ ofG ti tl w = x ∧ ti 15 w = nI q) = pB (∃ w, w < i + 1 ∧ ofG ti tl w = x ∧ ti 15 w = nI q) := fun q => by
        apply pB_congr
        constructor
        · rintro ⟨w, h1, h2⟩; exact ⟨w, by omega, h2⟩
        · rintro ⟨w, h1, h2, h3⟩
          rcases Nat.lt_or_eq_of_le (Nat.le_of_lt_succ h1) with e | e
          · exact ⟨w, e, h2, h3⟩
          · rw [e] at h2; exact absurd h2 c
      exact ih _ _ (fun q hq => by rw [ha q hq, old2]) (fun q hq => by rw [hb q hq, old2])
  · refine vc_X9_hands_8 _ _ _ _ mi ml ?_
    simp (disch := omega) only [H.e125, O.W, Nat.lt_irrefl, nI_ltI, nI_eq, nI_clamp, nI_1, xl_0, xg_0, xe_0, xe_m1, nI_0, xl_1, xl_2, xl_3, xl_4, xl_5, xl_6, xl_7, xl_8, xl_9, xl_10, xl_12, xl_20, xl_30, xl_32, xl_40, xl_41, xl_42, xl_48, xl_57, xl_59, xl_64, xl_97, xl_100, xl_122, xl_126, xl_128, xl_1000, xl_9999, xg_1, xg_2, xg_3, xg_4, xg_5, xg_6, xg_7, xg_8, xg_9, xg_10, xg_12, xg_20, xg_30, xg_32, xg_40, xg_41, xg_42, xg_48, xg_57, xg_59, xg_64, xg_97, xg_100, xg_122, xg_126, xg_128, xg_1000, xg_9999, xe_1, xe_2, xe_3, xe_4, xe_5, xe_6, xe_7, xe_8, xe_9, xe_10, xe_12, xe_20, xe_30, xe_32, xe_40, xe_41, xe_42, xe_48, xe_57, xe_59, xe_64, xe_97, xe_100, xe_122, xe_126, xe_128, xe_1000, xe_9999, true_implies, false_implies, not_true_eq_false, not_false_eq_true, and_true, true_and, forall_const, imp_self, lc_eq, implies_true, vin, Bool.true_eq_false, Bool.false_eq_true, false_and, and_false, or_false, false_or, or_true, true_or]
    refine ⟨_, _, _, s_bc6 a, _, _, _, s_bc6 b, ?_⟩
    have e : pcn (b6 a) 64 + pcn (b6 b) 64 = hanN ti tl x := by
      unfold hanN
      rw [← pcn_cut (f := fun p => pB (∃ w, w < nW ti ∧ ofG ti tl w = x ∧ ti 15 w = nI p)) (m := 100) (n := 64 + 64) (by decide) (fun i h1 h2 => by
        rw [pB_f]
        rintro ⟨w, q1, _, q3⟩
        obtain ⟨_, _, ⟨p, hp, ep⟩, _⟩ := O.w w q1
        rw [ep, nI_eq (by omega) (by omega)] at q3
        omega), pcn_add, pcn_congr ha, pcn_congr hb]
    rw [nI_add, e]
    exact hQ
  · rw [b6_0, eq_comm, pB_f]
    rintro ⟨w, h1, _⟩
    exact absurd h1 (Nat.not_lt_zero _)
  · rw [b6_0, eq_comm, pB_f]
    rintro ⟨w, h1, _⟩
    exact absurd h1 (Nat.not_lt_zero _)
theorem s_reach (O : okT ti) (C : cP ti tl mi ml) {g : Nat} (hg : g < 30) : ∃ ml', cS ro (d + 3) 93 [.ref 33, .int (nI g)] mi ml (some (.int (nI (reaN ti tl g)))) mi ml' ∧ cP ti tl mi ml' ∧ ∀ k, ¬ k = 9 → ml' k = ml k := by
  obtain ⟨r0, s0, h0⟩ := s_wholeT (ro := ro) (d := d + 1) O C.1
  have h0' : b6 r0 = fun p => decide (p < nL ti) := funext h0
  have s1 := s_open (ro := ro) (d := d) (mi := mi) (ml := ml) r0
  rw [h0', C.1.qoA, C.1.qoB] at s1
  have C1 := C.op (oA tl (fun p => decide (p < nL ti))) (oB tl (fun p => decide (p < nL ti)))
  obtain ⟨r1, s2, h1⟩ := s_lawBy (ro := ro) (d := d) O C1.h ((1 : Int32) <<< (nI g &&& 31))
  have e1 : b3 ((1 : Int32) <<< (nI g &&& 31)) = fun i => decide (i = g) := funext (fun i => b3_bit (by omega) i)
  rw [e1] at h1
  have s3 := s_open (ro := ro) (d := d) (mi := mi) (ml := op ml (oA tl (fun p => decide (p < nL ti))) (oB tl (fun p => decide (p < nL ti)))) r1
  rw [h1, C1.1.qoA, C1.1.qoB, op_op] at s3
  refine ⟨op ml (oA tl (lawS ti tl fun i => decide (i = g))) (oB tl (lawS ti tl fun i => decide (i = g))), ab_sem_q rfl rfl (fun Q hQ => vc_X9_reach_0 _ mi ml ⟨_, _, _, s0, _, _, s1, _, _, _, s2, _, _, s3, _, _, _, s_bc6 _, _, _, _, s_bc6 _, ?_⟩), C.op _ _, fun k hk => op_x _ _ _ hk⟩
  rw [op_94, op_95, op_94, op_95, nI_add]
  exact hQ
theorem s_weigh (O : okT ti) (C : cP ti tl mi ml) {g wt : Nat} (hg : g < 30) (hw : wt < 4) : ∃ ml', cS ro (d + 5) 90 [.ref 33, .int (nI g), .int (nI wt), .int (cSeen ti)] mi ml (some (.int (nI (wei ti tl wt g)))) mi ml' ∧ cP ti tl mi ml' ∧ ∀ k, ¬ k = 9 → ml' k = ml k := by
  by_cases c0 : wt = 0
  · refine ⟨ml, ab_sem_q rfl rfl (fun Q hQ => vc_X9_weigh_0 _ _ _ mi ml ?_), C, fun _ _ => rfl⟩
    simp (disch := omega) only [eq_true c0, nI_ltI, nI_eq, nI_clamp, nI_1, xl_0, xg_0, xe_0, xe_m1, nI_0, xl_1, xl_2, xl_3, xl_4, xl_5, xl_6, xl_7, xl_8, xl_9, xl_10, xl_12, xl_20, xl_30, xl_32, xl_40, xl_41, xl_42, xl_48, xl_57, xl_59, xl_64, xl_97, xl_100, xl_122, xl_126, xl_128, xl_1000, xl_9999, xg_1, xg_2, xg_3, xg_4, xg_5, xg_6, xg_7, xg_8, xg_9, xg_10, xg_12, xg_20, xg_30, xg_32, xg_40, xg_41, xg_42, xg_48, xg_57, xg_59, xg_64, xg_97, xg_100, xg_122, xg_126, xg_128, xg_1000, xg_9999, xe_1, xe_2, xe_3, xe_4, xe_5, xe_6, xe_7, xe_8, xe_9, xe_10, xe_12, xe_20, xe_30, xe_32, xe_40, xe_41, xe_42, xe_48, xe_57, xe_59, xe_64, xe_97, xe_100, xe_122, xe_126, xe_128, xe_1000, xe_9999, true_implies, false_implies, not_true_eq_false, not_false_eq_true, and_true, true_and, forall_const, imp_self, lc_eq, implies_true, vin, Bool.true_eq_false, Bool.false_eq_true, false_and, and_false, or_false, false_or, or_true, true_or]
    unfold wei at hQ
    rw [if_pos c0] at hQ
    exact ⟨_, _, _, s_hands O C (nI g), hQ⟩
  · by_cases c1 : wt = 1
    · refine ⟨ml, ab_sem_q rfl rfl (fun Q hQ => vc_X9_weigh_0 _ _ _ mi ml ?_), C, fun _ _ => rfl⟩
      simp (disch := omega) only [c0, eq_true c1, nI_ltI, nI_eq, nI_clamp, nI_1, xl_0, xg_0, xe_0, xe_m1, nI_0, xl_1, xl_2, xl_3, xl_4, xl_5, xl_6, xl_7, xl_8, xl_9, xl_10, xl_12, xl_20, xl_30, xl_32, xl_40, xl_41, xl_42, xl_48, xl_57, xl_59, xl_64, xl_97, xl_100, xl_122, xl_126, xl_128, xl_1000, xl_9999, xg_1, xg_2, xg_3, xg_4, xg_5, xg_6, xg_7, xg_8, xg_9, xg_10, xg_12, xg_20, xg_30, xg_32, xg_40, xg_41, xg_42, xg_48, xg_57, xg_59, xg_64, xg_97, xg_100, xg_122, xg_126, xg_128, xg_1000, xg_9999, xe_1, xe_2, xe_3, xe_4, xe_5, xe_6, xe_7, xe_8, xe_9, xe_10, xe_12, xe_20, xe_30, xe_32, xe_40, xe_41, xe_42, xe_48, xe_57, xe_59, xe_64, xe_97, xe_100, xe_122, xe_126, xe_128, xe_1000, xe_9999, true_implies, false_implies, not_true_eq_false, not_false_eq_true, and_true, true_and, forall_const, imp_self, lc_eq, implies_true, vin, Bool.true_eq_false, Bool.false_eq_true, false_and, and_false, or_false, false_or, or_true, true_or]
      unfold wei at hQ
      rw [if_neg c0, if_pos c1] at hQ
      exact ⟨_, _, _, s_houses O C (nI g), hQ⟩
    · by_cases c2 : wt = 2
      · obtain ⟨ml', s1, C1, hk⟩ := s_reach (ro := ro) (d := d + 1) O C hg
        refine ⟨ml', ab_sem_q rfl rfl (fun Q hQ => vc_X9_weigh_0 _ _ _ mi ml ?_), C1, hk⟩
        simp (disch := omega) only [c0, c1, eq_true c2, nI_ltI, nI_eq, nI_clamp, nI_1, xl_0, xg_0, xe_0, xe_m1, nI_0, xl_1, xl_2, xl_3, xl_4, xl_5, xl_6, xl_7, xl_8, xl_9, xl_10, xl_12, xl_20, xl_30, xl_32, xl_40, xl_41, xl_42, xl_48, xl_57, xl_59, xl_64, xl_97, xl_100, xl_122, xl_126, xl_128, xl_1000, xl_9999, xg_1, xg_2, xg_3, xg_4, xg_5, xg_6, xg_7, xg_8, xg_9, xg_10, xg_12, xg_20, xg_30, xg_32, xg_40, xg_41, xg_42, xg_48, xg_57, xg_59, xg_64, xg_97, xg_100, xg_122, xg_126, xg_128, xg_1000, xg_9999, xe_1, xe_2, xe_3, xe_4, xe_5, xe_6, xe_7, xe_8, xe_9, xe_10, xe_12, xe_20, xe_30, xe_32, xe_40, xe_41, xe_42, xe_48, xe_57, xe_59, xe_64, xe_97, xe_100, xe_122, xe_126, xe_128, xe_1000, xe_9999, true_implies, false_implies, not_true_eq_false, not_false_eq_true, and_true, true_and, forall_const, imp_self, lc_eq, implies_true, vin, Bool.true_eq_false, Bool.false_eq_true, false_and, and_false, or_false, false_or, or_true, true_or]
        unfold wei at hQ
        rw [if_neg c0, if_neg c1, if_pos c2] at hQ
        exact ⟨_, _, _, s1, hQ⟩
      · refine ⟨ml, ab_sem_q rfl rfl (fun Q hQ => vc_X9_weigh_0 _ _ _ mi ml ?_), C, fun _ _ => rfl⟩
        simp (disch := omega) only [c0, c1, c2, nI_ltI, nI_eq, nI_clamp, nI_1, xl_0, xg_0, xe_0, xe_m1, nI_0, xl_1, xl_2, xl_3, xl_4, xl_5, xl_6, xl_7, xl_8, xl_9, xl_10, xl_12, xl_20, xl_30, xl_32, xl_40, xl_41, xl_42, xl_48, xl_57, xl_59, xl_64, xl_97, xl_100, xl_122, xl_126, xl_128, xl_1000, xl_9999, xg_1, xg_2, xg_3, xg_4, xg_5, xg_6, xg_7, xg_8, xg_9, xg_10, xg_12, xg_20, xg_30, xg_32, xg_40, xg_41, xg_42, xg_48, xg_57, xg_59, xg_64, xg_97, xg_100, xg_122, xg_126, xg_128, xg_1000, xg_9999, xe_1, xe_2, xe_3, xe_4, xe_5, xe_6, xe_7, xe_8, xe_9, xe_10, xe_12, xe_20, xe_30, xe_32, xe_40, xe_41, xe_42, xe_48, xe_57, xe_59, xe_64, xe_97, xe_100, xe_122, xe_126, xe_128, xe_1000, xe_9999, true_implies, false_implies, not_true_eq_false, not_false_eq_true, and_true, true_and, forall_const, imp_self, lc_eq, implies_true, vin, Bool.true_eq_false, Bool.false_eq_true, false_and, and_false, or_false, false_or, or_true, true_or]
        unfold wei at hQ
        rw [if_neg c0, if_neg c1, if_neg c2] at hQ
        exact ⟨_, _, _, s_groundsHeld O C (nI g), hQ⟩
end WE
