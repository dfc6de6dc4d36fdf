/-! The reference: votes. -/
theorem ui_same (m : cM1) (k j : Nat) : ab_ui m k j (m k j) = m := by
  funext a b
  rw [ui_app]
  by_cases h : a = k
  · by_cases h2 : b = j
    · rw [if_pos h, if_pos h2, h, h2]
    · rw [if_pos h, if_neg h2]
  · rw [if_neg h]
def lf (n put : Nat) : Nat := pcn (fun g => !put.testBit g) n
theorem lf_or {n put g : Nat} (hg : g < n) (h : put.testBit g = false) : lf n (put ||| 2 ^ g) + 1 = lf n put := by
  have key : ∀ m, pcn (fun i => !(put ||| 2 ^ g).testBit i) m + (if g < m then 1 else 0) = pcn (fun i => !put.testBit i) m := by
    intro m
    induction m with
    | zero => simp [pcn]
    | succ m ih =>
      show pcn _ m + (!(put ||| 2 ^ g).testBit m).toNat + _ = pcn _ m + (!put.testBit m).toNat
      rw [Nat.testBit_or, Nat.testBit_two_pow]
      by_cases e : g = m
      · subst e
        rw [h]
        have : ¬ g < g := Nat.lt_irrefl g
        simp only [this, if_false] at ih
        simp at ih ⊢
        omega
      · have e2 : (g < m + 1) = (g < m) := propext (by omega)
        simp only [e, decide_false, Bool.or_false, e2]
        omega
  have := key n
  rw [if_pos hg] at this
  exact this
theorem lf_0 {n put : Nat} (h : lf n put = 0) : ∀ g, g < n → put.testBit g = true := fun g hg => by
  cases q : put.testBit g with
  | true => rfl
  | false =>
    have : 0 < lf n put := pcn_pos.2 ⟨g, hg, by simp [q]⟩
    omega
theorem lf_s {n put : Nat} (h : 0 < lf n put) : ∃ g, g < n ∧ put.testBit g = false := by
  obtain ⟨g, h1, h2⟩ := pcn_pos.1 h
  exact ⟨g, h1, by simpa using h2⟩
theorem lf_00 (n : Nat) : lf n 0 = n := by
  unfold lf
  have : ∀ m, pcn (fun g => !(0 : Nat).testBit g) m = m := by
    intro m
    induction m with
    | zero => rfl
    | succ m ih =>
      show pcn (fun g => !(0 : Nat).testBit g) m + (!(0 : Nat).testBit m).toNat = m + 1
      rw [ih, Nat.zero_testBit]; rfl
  exact this n
/-- the ballots stand: the votes are Y, what goes is known -/
def vB (ti : cM1) (tl : cM2) (Y : Nat → Nat → Bool) (mi : cM1) : Prop := mi 40 45 = nI (nG ti tl) ∧ (∀ s, s < 2 ^ nV ti tl → mi 79 s = pI (goN ti tl s)) ∧ (∀ h, h < 7 → ∀ g, g < 6 → mi 78 (6 * h + g) = bI (Y h g))
def mst (Y : Nat → Nat → Bool) (g : Nat) : Prop := 4 ≤ pcn (fun h => Y h g) 7
abbrev oSt : Type := Int32 × Int32 × (Nat → Bool)
def onote (z : oSt) (a : Nat × Nat) : oSt := (z.1 &&& nI a.1, z.2.1 ||| nI a.1, fun k => z.2.2 k || decide (k = a.1))
def oOK (z : oSt) (mi : cM1) : Prop := mi 40 63 = z.1 ∧ mi 40 64 = z.2.1 ∧ ∀ k, k < 64 → mi 80 k = bI (z.2.2 k)
def mlik (x : Int32) (t : Nat) : Int32 := nI (pcn (b3 (nI t &&& x)) 30)
abbrev fSt : Type := Int32 × Int32 × Int32
def fnote (x : Int32) (z : fSt) (a : Nat × Nat) : fSt := ((if z.1 < mlik x a.1 then mlik x a.1 else z.1), (if z.2.1 < 0 ∨ mlik x a.1 < z.2.1 then mlik x a.1 else z.2.1), (if z.1 < mlik x a.1 then nI a.2 else z.2.2))
def fnOK (z : fSt) (mi : cM1) : Prop := mi 40 66 = z.1 ∧ mi 40 67 = z.2.1 ∧ mi 40 68 = z.2.2
section MV
variable {ro : ab_E} {d : Nat} {ti mi vi mi' : cM1} {tl ml vl ml' : cM2} {Y : Nat → Nat → Bool}
theorem s_votedMany (O : okT ti) (e : mi 40 45 = nI (nG ti tl)) : cS ro (d + 1) 225 [.ref 40] mi ml (some (.int (nI (nV ti tl)))) mi ml := by
  have hW := O.W2
  have hG := nG_le ti tl
  refine ab_sem_q rfl rfl (fun Q hQ => vc_X12_votedMany_0 mi ml ?_)
  rw [e, xl_6 (by omega)]
  refine ⟨fun c => ?_, fun c => ?_⟩
  · have q : nV ti tl = nG ti tl := by unfold nV; rw [if_neg (by omega)]
    rw [q] at hQ; exact hQ
  · have q : nI (nV ti tl) = 6 := by
      by_cases q : 6 < nG ti tl
      · unfold nV; rw [if_pos q]; rfl
      · have : nG ti tl = 6 := by omega
        unfold nV; rw [if_neg q, this]; rfl
    rw [q] at hQ; exact hQ
theorem s_vM (O : okT ti) (e : mi 40 45 = nI (nG ti tl)) {D : Nat} (hD : 1 ≤ D) : cS ro D 225 [.ref 40] mi ml (some (.int (nI (nV ti tl)))) mi ml := by
  obtain ⟨d, rfl⟩ : ∃ d, D = d + 1 := ⟨D - 1, by omega⟩
  exact s_votedMany O e
theorem n6 (x : Nat) : (6 : Int32) * nI x = nI (6 * x) := nI_mul 6 x
theorem s_hasMost (V : vB ti tl Y mi) {g : Nat} (hg : g < 6) : cS ro (d + 1) 227 [.ref 40, .int (nI g)] mi ml (some (.int (pI (mst Y g)))) mi ml := by
  refine ab_sem_q rfl rfl (fun Q hQ => vc_X12_hasMost_0 _ mi ml ?_)
  refine up0 (n := 7) (F := fun i => W_X12_hasMost_4 (cs ro d) ro Q (nI g) (nI (pcn (fun h => Y h g) i)) (nI i) mi ml) (fun i hi ih => ?_) ?_
  · refine vc_X12_hasMost_4 _ _ _ mi ml ?_
    have hlt : 6 * i + g < 42 := by omega
    simp (disch := omega) only [hi, n6, nI_add, V.2.2 i hi g hg, bI_0, Int32.add_zero, nI_ltI, nI_eq, nI_clamp, nI_1, xl_0, xg_0, xe_0, xe_m1, nI_0, xl_1, xl_2, xl_3, xl_4, xl_5, xl_6, xl_7, xl_8, xl_9, xl_10, xl_12, xl_20, xl_30, xl_32, xl_40, xl_41, xl_42, xl_48, xl_57, xl_59, xl_64, xl_97, xl_100, xl_122, xl_126, xl_128, xl_1000, xl_9999, xg_1, xg_2, xg_3, xg_4, xg_5, xg_6, xg_7, xg_8, xg_9, xg_10, xg_12, xg_20, xg_30, xg_32, xg_40, xg_41, xg_42, xg_48, xg_57, xg_59, xg_64, xg_97, xg_100, xg_122, xg_126, xg_128, xg_1000, xg_9999, xe_1, xe_2, xe_3, xe_4, xe_5, xe_6, xe_7, xe_8, xe_9, xe_10, xe_12, xe_20, xe_30, xe_32, xe_40, xe_41, xe_42, xe_48, xe_57, xe_59, xe_64, xe_97, xe_100, xe_122, xe_126, xe_128, xe_1000, xe_9999, true_implies, false_implies, not_true_eq_false, not_false_eq_true, and_true, true_and, forall_const, imp_self, lc_eq, implies_true, vin, Bool.true_eq_false, Bool.false_eq_true, false_and, and_false, or_false, false_or, or_true, true_or]
    refine ⟨fun c => ?_, fun c => ?_⟩
    · rw [pcn_s0 (f := fun h => Y h g) (n := i) c]; exact ih
    · rw [pcn_s1 (f := fun h => Y h g) (n := i) (by simpa using c)]; exact ih
  · refine vc_X12_hasMost_4 _ _ _ mi ml ?_
    have hle := pcn_le (fun h => Y h g) 7
    have e7 : (7 : Int32) - nI (pcn (fun h => Y h g) 7) = nI (7 - pcn (fun h => Y h g) 7) := nI_m (a := 7) hle
    simp (disch := omega) only [Nat.lt_irrefl, e7, nI_ltI, nI_eq, nI_clamp, nI_1, xl_0, xg_0, xe_0, xe_m1, nI_0, xl_1, xl_2, xl_3, xl_4, xl_5, xl_6, xl_7, xl_8, xl_9, xl_10, xl_12, xl_20, xl_30, xl_32, xl_40, xl_41, xl_42, xl_48, xl_57, xl_59, xl_64, xl_97, xl_100, xl_122, xl_126, xl_128, xl_1000, xl_9999, xg_1, xg_2, xg_3, xg_4, xg_5, xg_6, xg_7, xg_8, xg_9, xg_10, xg_12, xg_20, xg_30, xg_32, xg_40, xg_41, xg_42, xg_48, xg_57, xg_59, xg_64, xg_97, xg_100, xg_122, xg_126, xg_128, xg_1000, xg_9999, xe_1, xe_2, xe_3, xe_4, xe_5, xe_6, xe_7, xe_8, xe_9, xe_10, xe_12, xe_20, xe_30, xe_32, xe_40, xe_41, xe_42, xe_48, xe_57, xe_59, xe_64, xe_97, xe_100, xe_122, xe_126, xe_128, xe_1000, xe_9999, true_implies, false_implies, not_true_eq_false, not_false_eq_true, and_true, true_and, forall_const, imp_self, lc_eq, implies_true, vin, Bool.true_eq_false, Bool.false_eq_true, false_and, and_false, or_false, false_or, or_true, true_or]
    refine ⟨fun c => ?_, fun c => ?_⟩
    · rw [pI_1 (show mst Y g by unfold mst; omega)] at hQ; exact hQ
    · rw [pI_0 (show ¬ mst Y g by unfold mst; omega)] at hQ; exact hQ
theorem s_puts (V : vB ti tl Y mi) {t g : Nat} (ht : t < 2 ^ nV ti tl) (hg : g < nV ti tl) : cS ro (d + 2) 228 [.ref 40, .int (nI t), .int (nI g)] mi ml (some (.int (nI (tw ti tl (mst Y) t g)))) mi ml := by
  have hV := nV_le ti tl
  have h6 : 2 ^ nV ti tl ≤ 2 ^ 6 := Nat.pow_le_pow_right (by decide) hV.1
  have ho := or_lt ht hg
  refine ab_sem_q rfl rfl (fun Q hQ => vc_X12_puts_0 _ _ mi ml ⟨_, _, _, s_hasMost V (by omega), ?_⟩)
  rw [pI_e0, or_bit (by omega) (by omega)]
  unfold tw at hQ
  refine ⟨fun c => ?_, fun c => ?_⟩
  · rw [if_neg (fun q => c q.1)] at hQ; exact hQ
  · simp (disch := omega) only [V.2.1 _ ho, pI_e0, nI_ltI, nI_eq, nI_clamp, nI_1, xl_0, xg_0, xe_0, xe_m1, nI_0, xl_1, xl_2, xl_3, xl_4, xl_5, xl_6, xl_7, xl_8, xl_9, xl_10, xl_12, xl_20, xl_30, xl_32, xl_40, xl_41, xl_42, xl_48, xl_57, xl_59, xl_64, xl_97, xl_100, xl_122, xl_126, xl_128, xl_1000, xl_9999, xg_1, xg_2, xg_3, xg_4, xg_5, xg_6, xg_7, xg_8, xg_9, xg_10, xg_12, xg_20, xg_30, xg_32, xg_40, xg_41, xg_42, xg_48, xg_57, xg_59, xg_64, xg_97, xg_100, xg_122, xg_126, xg_128, xg_1000, xg_9999, xe_1, xe_2, xe_3, xe_4, xe_5, xe_6, xe_7, xe_8, xe_9, xe_10, xe_12, xe_20, xe_30, xe_32, xe_40, xe_41, xe_42, xe_48, xe_57, xe_59, xe_64, xe_97, xe_100, xe_122, xe_126, xe_128, xe_1000, xe_9999, true_implies, false_implies, not_true_eq_false, not_false_eq_true, and_true, true_and, forall_const, imp_self, lc_eq, implies_true, vin, Bool.true_eq_false, Bool.false_eq_true, false_and, and_false, or_false, false_or, or_true, true_or]
    refine ⟨fun c2 => ?_, fun c2 => ?_⟩
    · rw [if_neg (fun q => c2 q.2)] at hQ; exact hQ
    · rw [if_pos ⟨Classical.not_not.1 c, Classical.not_not.1 c2⟩] at hQ; exact hQ
theorem tw_lt2 {p : Nat → Prop} {t g m : Nat} (ht : t < 2 ^ m) (hg : g < m) : tw ti tl p t g < 2 ^ m := by
  unfold tw
  by_cases c : p g ∧ goN ti tl (t ||| 2 ^ g)
  · rw [if_pos c]; exact or_lt ht hg
  · rw [if_neg c]; exact ht
theorem pln_lt2 {p : Nat → Prop} : ∀ n, n ≤ nV ti tl → pln ti tl p n < 2 ^ nV ti tl
  | 0, _ => Nat.two_pow_pos _
  | n + 1, h => tw_lt2 (pln_lt2 n (by omega)) (by omega)
theorem s_firstResult (O : okT ti) (V : vB ti tl Y mi) : cS ro (d + 3) 230 [.ref 40] mi ml (some (.int (nI (pln ti tl (mst Y) (nV ti tl))))) mi ml := by
  have hV := nV_le ti tl
  refine ab_sem_q rfl rfl (fun Q hQ => vc_X12_firstResult_0 mi ml ?_)
  refine up0 (n := nV ti tl) (F := fun i => W_X12_firstResult_4 (cs ro (d + 2)) ro Q (nI (pln ti tl (mst Y) i)) (nI i) mi ml) (fun i hi ih => ?_) ?_
  · refine vc_X12_firstResult_4 _ _ mi ml ⟨_, _, _, s_votedMany O V.1, ?_⟩
    simp (disch := omega) only [hi, nI_ltI, nI_eq, nI_clamp, nI_1, xl_0, xg_0, xe_0, xe_m1, nI_0, xl_1, xl_2, xl_3, xl_4, xl_5, xl_6, xl_7, xl_8, xl_9, xl_10, xl_12, xl_20, xl_30, xl_32, xl_40, xl_41, xl_42, xl_48, xl_57, xl_59, xl_64, xl_97, xl_100, xl_122, xl_126, xl_128, xl_1000, xl_9999, xg_1, xg_2, xg_3, xg_4, xg_5, xg_6, xg_7, xg_8, xg_9, xg_10, xg_12, xg_20, xg_30, xg_32, xg_40, xg_41, xg_42, xg_48, xg_57, xg_59, xg_64, xg_97, xg_100, xg_122, xg_126, xg_128, xg_1000, xg_9999, xe_1, xe_2, xe_3, xe_4, xe_5, xe_6, xe_7, xe_8, xe_9, xe_10, xe_12, xe_20, xe_30, xe_32, xe_40, xe_41, xe_42, xe_48, xe_57, xe_59, xe_64, xe_97, xe_100, xe_122, xe_126, xe_128, xe_1000, xe_9999, true_implies, false_implies, not_true_eq_false, not_false_eq_true, and_true, true_and, forall_const, imp_self, lc_eq, implies_true, vin, Bool.true_eq_false, Bool.false_eq_true, false_and, and_false, or_false, false_or, or_true, true_or]
    exact ⟨_, _, _, s_puts V (pln_lt2 i (by omega)) hi, ih⟩
  · refine vc_X12_firstResult_4 _ _ mi ml ⟨_, _, _, s_votedMany O V.1, ?_⟩
    simp (disch := omega) only [Nat.lt_irrefl, nI_ltI, nI_eq, nI_clamp, nI_1, xl_0, xg_0, xe_0, xe_m1, nI_0, xl_1, xl_2, xl_3, xl_4, xl_5, xl_6, xl_7, xl_8, xl_9, xl_10, xl_12, xl_20, xl_30, xl_32, xl_40, xl_41, xl_42, xl_48, xl_57, xl_59, xl_64, xl_97, xl_100, xl_122, xl_126, xl_128, xl_1000, xl_9999, xg_1, xg_2, xg_3, xg_4, xg_5, xg_6, xg_7, xg_8, xg_9, xg_10, xg_12, xg_20, xg_30, xg_32, xg_40, xg_41, xg_42, xg_48, xg_57, xg_59, xg_64, xg_97, xg_100, xg_122, xg_126, xg_128, xg_1000, xg_9999, xe_1, xe_2, xe_3, xe_4, xe_5, xe_6, xe_7, xe_8, xe_9, xe_10, xe_12, xe_20, xe_30, xe_32, xe_40, xe_41, xe_42, xe_48, xe_57, xe_59, xe_64, xe_97, xe_100, xe_122, xe_126, xe_128, xe_1000, xe_9999, true_implies, false_implies, not_true_eq_false, not_false_eq_true, and_true, true_and, forall_const, imp_self, lc_eq, implies_true, vin, Bool.true_eq_false, Bool.false_eq_true, false_and, and_false, or_false, false_or, or_true, true_or]
    exact hQ
theorem s_findGoes (O : okT ti) (OM : okM ti tl) (H : eqM ti tl vi vl mi ml) : ∃ mi' ml', cS ro (d + 5) 226 [.ref 40] mi ml none mi' ml' ∧ mP ti tl vi vl mi' ml' ∧ vB ti tl (fun h g => b3 (ti 37 h) g) mi' := by
  have hV := nV_le ti tl
  have h6 : 2 ^ nV ti tl ≤ 2 ^ 6 := Nat.pow_le_pow_right (by decide) hV.1
  obtain ⟨mi1, ml1, s1, _, M1⟩ := s_findGroups (ro := ro) (d := d) O OM H
  refine ab_ex_q rfl rfl (fun Q hQ => vc_X12_findGoes_0 mi ml ⟨_, _, s1, ?_⟩)
  refine up0 (n := 2 ^ nV ti tl) (F := fun i => ∀ mi ml, mP ti tl vi vl mi ml → (∀ s, s < i → mi 79 s = pI (goN ti tl s)) → W_X12_findGoes_6 (cs ro (d + 4)) ro Q (nI i) mi ml) (fun i hi ih mi ml M Z => ?_) (fun mi ml M Z => ?_) mi1 ml1 M1 (fun s hs => absurd hs (Nat.not_lt_zero s))
  · refine vc_X12_findGoes_6 _ mi ml ⟨_, _, _, s_votedMany O M.2.1, ?_⟩
    rw [bit_n (by omega)]
    obtain ⟨mi2, ml2, s2, F2⟩ := s_goTogether (ro := ro) (d := d + 1) O OM M (nI i)
    simp (disch := omega) only [hi, nI_ltI, nI_eq, nI_clamp, nI_1, xl_0, xg_0, xe_0, xe_m1, nI_0, xl_1, xl_2, xl_3, xl_4, xl_5, xl_6, xl_7, xl_8, xl_9, xl_10, xl_12, xl_20, xl_30, xl_32, xl_40, xl_41, xl_42, xl_48, xl_57, xl_59, xl_64, xl_97, xl_100, xl_122, xl_126, xl_128, xl_1000, xl_9999, xg_1, xg_2, xg_3, xg_4, xg_5, xg_6, xg_7, xg_8, xg_9, xg_10, xg_12, xg_20, xg_30, xg_32, xg_40, xg_41, xg_42, xg_48, xg_57, xg_59, xg_64, xg_97, xg_100, xg_122, xg_126, xg_128, xg_1000, xg_9999, xe_1, xe_2, xe_3, xe_4, xe_5, xe_6, xe_7, xe_8, xe_9, xe_10, xe_12, xe_20, xe_30, xe_32, xe_40, xe_41, xe_42, xe_48, xe_57, xe_59, xe_64, xe_97, xe_100, xe_122, xe_126, xe_128, xe_1000, xe_9999, true_implies, false_implies, not_true_eq_false, not_false_eq_true, and_true, true_and, forall_const, imp_self, lc_eq, implies_true, vin, Bool.true_eq_false, Bool.false_eq_true, false_and, and_false, or_false, false_or, or_true, true_or]
    refine ⟨_, _, _, s2, ?_⟩
    rw [nar_p]
    refine ih _ _ ((M.fr F2).ui _ rfl rfl (by decide)) (fun s hs => ?_)
    rw [ui_app, if_pos rfl]
    by_cases e : s = i
    · rw [if_pos e, e]; rfl
    · rw [if_neg e, F2.1 79 s rfl]; exact Z s (by omega)
  · refine vc_X12_findGoes_6 _ mi ml ⟨_, _, _, s_votedMany O M.2.1, ?_⟩
    rw [bit_n (by omega)]
    simp (disch := omega) only [Nat.lt_irrefl, nI_ltI, nI_eq, nI_clamp, nI_1, xl_0, xg_0, xe_0, xe_m1, nI_0, xl_1, xl_2, xl_3, xl_4, xl_5, xl_6, xl_7, xl_8, xl_9, xl_10, xl_12, xl_20, xl_30, xl_32, xl_40, xl_41, xl_42, xl_48, xl_57, xl_59, xl_64, xl_97, xl_100, xl_122, xl_126, xl_128, xl_1000, xl_9999, xg_1, xg_2, xg_3, xg_4, xg_5, xg_6, xg_7, xg_8, xg_9, xg_10, xg_12, xg_20, xg_30, xg_32, xg_40, xg_41, xg_42, xg_48, xg_57, xg_59, xg_64, xg_97, xg_100, xg_122, xg_126, xg_128, xg_1000, xg_9999, xe_1, xe_2, xe_3, xe_4, xe_5, xe_6, xe_7, xe_8, xe_9, xe_10, xe_12, xe_20, xe_30, xe_32, xe_40, xe_41, xe_42, xe_48, xe_57, xe_59, xe_64, xe_97, xe_100, xe_122, xe_126, xe_128, xe_1000, xe_9999, true_implies, false_implies, not_true_eq_false, not_false_eq_true, and_true, true_and, forall_const, imp_self, lc_eq, implies_true, vin, Bool.true_eq_false, Bool.false_eq_true, false_and, and_false, or_false, false_or, or_true, true_or]
    refine hQ _ _ ⟨M, M.2.1, Z, fun h hh g hg => ?_⟩
    rw [M.1.e78]; exact OM.y h hh g hg
theorem s_wantedBy (O : okT ti) (V : vB ti tl Y mi) {h : Nat} (hh : h < 7) : ∃ r, cS ro (d + 2) 234 [.ref 40, .int (nI h)] mi ml (some (.int r)) mi ml ∧ ∀ g, b3 r g = (decide (g < nV ti tl) && Y h g) := by
  have hV := nV_le ti tl
  have key : ∃ r mi' ml', ab_sem ro ab_mt (d + 2) 234 [.ref 40, .int (nI h)] (ab_G mi ml) (some (.int r)) (ab_G mi' ml') ∧ ((∀ g, b3 r g = (decide (g < nV ti tl) && Y h g)) ∧ mi' = mi ∧ ml' = ml) := by
    refine ab_ei_q rfl rfl (fun Q hQ => vc_X12_wantedBy_0 _ mi ml ?_)
    refine up0 (n := nV ti tl) (F := fun i => ∀ r, (∀ g, b3 r g = (decide (g < i) && Y h g)) → W_X12_wantedBy_4 (cs ro (d + 1)) ro Q (nI h) r (nI i) mi ml) (fun i hi ih r hr => ?_) (fun r hr => ?_) 0 (fun g => by rw [b3_0]; simp)
    · refine vc_X12_wantedBy_4 _ _ _ mi ml ⟨_, _, _, s_votedMany O V.1, ?_⟩
      have hlt : 6 * h + i < 42 := by omega
      simp (disch := omega) only [hi, n6, nI_add, V.2.2 h hh i (by omega), bI_0, or3_0, nI_ltI, nI_eq, nI_clamp, nI_1, xl_0, xg_0, xe_0, xe_m1, nI_0, xl_1, xl_2, xl_3, xl_4, xl_5, xl_6, xl_7, xl_8, xl_9, xl_10, xl_12, xl_20, xl_30, xl_32, xl_40, xl_41, xl_42, xl_48, xl_57, xl_59, xl_64, xl_97, xl_100, xl_122, xl_126, xl_128, xl_1000, xl_9999, xg_1, xg_2, xg_3, xg_4, xg_5, xg_6, xg_7, xg_8, xg_9, xg_10, xg_12, xg_20, xg_30, xg_32, xg_40, xg_41, xg_42, xg_48, xg_57, xg_59, xg_64, xg_97, xg_100, xg_122, xg_126, xg_128, xg_1000, xg_9999, xe_1, xe_2, xe_3, xe_4, xe_5, xe_6, xe_7, xe_8, xe_9, xe_10, xe_12, xe_20, xe_30, xe_32, xe_40, xe_41, xe_42, xe_48, xe_57, xe_59, xe_64, xe_97, xe_100, xe_122, xe_126, xe_128, xe_1000, xe_9999, true_implies, false_implies, not_true_eq_false, not_false_eq_true, and_true, true_and, forall_const, imp_self, lc_eq, implies_true, vin, Bool.true_eq_false, Bool.false_eq_true, false_and, and_false, or_false, false_or, or_true, true_or]
      refine ⟨fun c => ih _ (fun g => ?_), fun c => ih _ (fun g => ?_)⟩
      · rw [hr]
        by_cases e : g = i
        · rw [e, c]; simp
        · have : (g < i + 1) = (g < i) := propext (by omega)
          simp [this]
      · rw [b3_orbit _ (by omega), hr]
        by_cases e : g = i
        · have c' : Y h i = true := by simpa using c
          rw [e, c']; simp
        · have : (g < i + 1) = (g < i) := propext (by omega)
          simp [this, e]
    · refine vc_X12_wantedBy_4 _ _ _ mi ml ⟨_, _, _, s_votedMany O V.1, ?_⟩
      simp (disch := omega) only [Nat.lt_irrefl, nI_ltI, nI_eq, nI_clamp, nI_1, xl_0, xg_0, xe_0, xe_m1, nI_0, xl_1, xl_2, xl_3, xl_4, xl_5, xl_6, xl_7, xl_8, xl_9, xl_10, xl_12, xl_20, xl_30, xl_32, xl_40, xl_41, xl_42, xl_48, xl_57, xl_59, xl_64, xl_97, xl_100, xl_122, xl_126, xl_128, xl_1000, xl_9999, xg_1, xg_2, xg_3, xg_4, xg_5, xg_6, xg_7, xg_8, xg_9, xg_10, xg_12, xg_20, xg_30, xg_32, xg_40, xg_41, xg_42, xg_48, xg_57, xg_59, xg_64, xg_97, xg_100, xg_122, xg_126, xg_128, xg_1000, xg_9999, xe_1, xe_2, xe_3, xe_4, xe_5, xe_6, xe_7, xe_8, xe_9, xe_10, xe_12, xe_20, xe_30, xe_32, xe_40, xe_41, xe_42, xe_48, xe_57, xe_59, xe_64, xe_97, xe_100, xe_122, xe_126, xe_128, xe_1000, xe_9999, true_implies, false_implies, not_true_eq_false, not_false_eq_true, and_true, true_and, forall_const, imp_self, lc_eq, implies_true, vin, Bool.true_eq_false, Bool.false_eq_true, false_and, and_false, or_false, false_or, or_true, true_or]
      exact hQ _ _ _ ⟨hr, rfl, rfl⟩
  obtain ⟨r, mi', ml', h1, h2, rfl, rfl⟩ := key
  exact ⟨r, h1, h2⟩
theorem vB.ui (V : vB ti tl Y mi) {k j : Nat} (v : Int32) (h1 : ¬ (k = 40 ∧ j = 45)) (h2 : ¬ k = 79) (h3 : ¬ k = 78) : vB ti tl Y (ab_ui mi k j v) := by
  refine ⟨?_, fun s hs => ?_, fun h hh g hg => ?_⟩
  · rw [ui_app]
    by_cases e : 40 = k
    · by_cases e2 : 45 = j
      · exact absurd ⟨e.symm, e2.symm⟩ h1
      · rw [if_pos e, if_neg e2]; exact V.1
    · rw [if_neg e]; exact V.1
  · rw [ui_app, if_neg (fun e => h2 e.symm)]; exact V.2.1 s hs
  · rw [ui_app, if_neg (fun e => h3 e.symm)]; exact V.2.2 h hh g hg
/-- orders' own state: the ballots, and all that lasts -/
def vP (ti : cM1) (tl : cM2) (vi : cM1) (vl : cM2) (Y : Nat → Nat → Bool) (mi : cM1) (ml : cM2) : Prop := mP ti tl vi vl mi ml ∧ vB ti tl Y mi
theorem vP.ui (V : vP ti tl vi vl Y mi ml) {k j : Nat} (v : Int32) (h1 : lmI k j = false) (h2 : mgI k j = false) (hk : 40 ≤ k) (h3 : ¬ k = 79) (h4 : ¬ k = 78) (h5 : ¬ (k = 40 ∧ j = 45)) : vP ti tl vi vl Y (ab_ui mi k j v) ml := ⟨V.1.ui v h1 h2 hk, V.2.ui v h5 h3 h4⟩
set_option maxHeartbeats 1000000 in
theorem s_orders (O : okT ti) : ∀ (left put t c : Nat), lf (nV ti tl) put = left → put < 2 ^ 6 → t < 2 ^ nV ti tl → ∀ (mi : cM1) (ml : cM2) (z : oSt), vP ti tl vi vl Y mi ml → oOK z mi →
    ∃ mi' ml', cS ro (d + 3 + left) 229 [.ref 40, .int (nI put), .int (nI t)] mi ml none mi' ml' ∧ vP ti tl vi vl Y mi' ml' ∧ oOK ((ordl ti tl (mst Y) left put t c).foldl onote z) mi' := by
  have hV := nV_le ti tl
  have h6 : 2 ^ nV ti tl ≤ 2 ^ 6 := Nat.pow_le_pow_right (by decide) hV.1
  intro left
  induction left with
  | zero =>
    intro put t c hl hput ht mi ml z V N
    have hall := lf_0 hl
    refine ab_ex_q rfl rfl (fun Q hQ => vc_X12_orders_0 _ _ mi ml ?_)
    refine up0 (n := nV ti tl) (F := fun i => W_X12_orders_5 (cs ro (d + 2)) ro Q (nI put) (nI t) 1 (nI i) mi ml) (fun i hi ih => ?_) ?_
    · refine vc_X12_orders_5 _ _ _ _ mi ml ⟨_, _, _, s_vM O V.2.1 (by omega), ?_⟩
      have hb : b3 (nI put) i = true := by rw [b3_nI (by omega)]; exact hall i hi
      simp (disch := omega) only [hi, b3_a0, hb, nI_ltI, nI_eq, nI_clamp, nI_1, xl_0, xg_0, xe_0, xe_m1, nI_0, xl_1, xl_2, xl_3, xl_4, xl_5, xl_6, xl_7, xl_8, xl_9, xl_10, xl_12, xl_20, xl_30, xl_32, xl_40, xl_41, xl_42, xl_48, xl_57, xl_59, xl_64, xl_97, xl_100, xl_122, xl_126, xl_128, xl_1000, xl_9999, xg_1, xg_2, xg_3, xg_4, xg_5, xg_6, xg_7, xg_8, xg_9, xg_10, xg_12, xg_20, xg_30, xg_32, xg_40, xg_41, xg_42, xg_48, xg_57, xg_59, xg_64, xg_97, xg_100, xg_122, xg_126, xg_128, xg_1000, xg_9999, xe_1, xe_2, xe_3, xe_4, xe_5, xe_6, xe_7, xe_8, xe_9, xe_10, xe_12, xe_20, xe_30, xe_32, xe_40, xe_41, xe_42, xe_48, xe_57, xe_59, xe_64, xe_97, xe_100, xe_122, xe_126, xe_128, xe_1000, xe_9999, true_implies, false_implies, not_true_eq_false, not_false_eq_true, and_true, true_and, forall_const, imp_self, lc_eq, implies_true, vin, Bool.true_eq_false, Bool.false_eq_true, false_and, and_false, or_false, false_or, or_true, true_or]
      exact ih
    · refine vc_X12_orders_5 _ _ _ _ mi ml ⟨_, _, _, s_vM O V.2.1 (by omega), ?_⟩
      have e10 : ((1 : Int32) = 0) = False := eq_false (by decide)
      simp (disch := omega) only [Nat.lt_irrefl, e10, nar_1, nI_ltI, nI_eq, nI_clamp, nI_1, xl_0, xg_0, xe_0, xe_m1, nI_0, xl_1, xl_2, xl_3, xl_4, xl_5, xl_6, xl_7, xl_8, xl_9, xl_10, xl_12, xl_20, xl_30, xl_32, xl_40, xl_41, xl_42, xl_48, xl_57, xl_59, xl_64, xl_97, xl_100, xl_122, xl_126, xl_128, xl_1000, xl_9999, xg_1, xg_2, xg_3, xg_4, xg_5, xg_6, xg_7, xg_8, xg_9, xg_10, xg_12, xg_20, xg_30, xg_32, xg_40, xg_41, xg_42, xg_48, xg_57, xg_59, xg_64, xg_97, xg_100, xg_122, xg_126, xg_128, xg_1000, xg_9999, xe_1, xe_2, xe_3, xe_4, xe_5, xe_6, xe_7, xe_8, xe_9, xe_10, xe_12, xe_20, xe_30, xe_32, xe_40, xe_41, xe_42, xe_48, xe_57, xe_59, xe_64, xe_97, xe_100, xe_122, xe_126, xe_128, xe_1000, xe_9999, true_implies, false_implies, not_true_eq_false, not_false_eq_true, and_true, true_and, forall_const, imp_self, lc_eq, implies_true, vin, Bool.true_eq_false, Bool.false_eq_true, false_and, and_false, or_false, false_or, or_true, true_or]
      obtain ⟨n1, n2, n3⟩ := N
      refine hQ _ _ ⟨((V.ui _ rfl rfl (by decide) (by decide) (by decide) (fun h => by cases h.1)).ui _ rfl rfl (by decide) (by decide) (by decide) (by decide)).ui _ rfl rfl (by decide) (by decide) (by decide) (by decide), ?_⟩
      refine ⟨?_, ?_, fun k hk => ?_⟩
      · show _ = z.1 &&& nI t
        simp [ui_app, n1]
      · show _ = z.2.1 ||| nI t
        simp [ui_app, n2]
      · show _ = bI (z.2.2 k || decide (k = t))
        simp only [ui_app]
        by_cases e : k = t
        · simp [e]
        · simp [e]; simpa using n3 k hk
  | succ left ih =>
    intro put t c hl hput ht mi ml z V N
    refine ab_ex_q rfl rfl (fun Q hQ => vc_X12_orders_0 _ _ mi ml ?_)
    have e : ordl ti tl (mst Y) (left + 1) put t c = (List.range (nV ti tl)).flatMap (fun g => if put.testBit g = true then [] else ordl ti tl (mst Y) left (put ||| 2 ^ g) (tw ti tl (mst Y) t g) (8 * c + g)) := rfl
    rw [e] at hQ
    refine up0 (n := nV ti tl) (F := fun i => ∀ mi ml z' (l : Int32), vP ti tl vi vl Y mi ml → oOK z' mi → z' = ((List.range i).flatMap (fun g => if put.testBit g = true then [] else ordl ti tl (mst Y) left (put ||| 2 ^ g) (tw ti tl (mst Y) t g) (8 * c + g))).foldl onote z → ((∃ g, g < i ∧ put.testBit g = false) → l = 0) → W_X12_orders_5 (cs ro (d + 3 + left)) ro Q (nI put) (nI t) l (nI i) mi ml) (fun i hi ih2 mi ml z' l V N hz hlast => ?_) (fun mi ml z' l V N hz hlast => ?_) mi ml z 1 V N rfl (fun ⟨g, hg, _⟩ => absurd hg (Nat.not_lt_zero g))
    · refine vc_X12_orders_5 _ _ _ _ mi ml ⟨_, _, _, s_vM O V.2.1 (by omega), ?_⟩
      have hs : (List.range (i + 1)).flatMap (fun g => if put.testBit g = true then [] else ordl ti tl (mst Y) left (put ||| 2 ^ g) (tw ti tl (mst Y) t g) (8 * c + g)) = (List.range i).flatMap (fun g => if put.testBit g = true then [] else ordl ti tl (mst Y) left (put ||| 2 ^ g) (tw ti tl (mst Y) t g) (8 * c + g)) ++ (if put.testBit i = true then [] else ordl ti tl (mst Y) left (put ||| 2 ^ i) (tw ti tl (mst Y) t i) (8 * c + i)) := by
        rw [List.range_succ, List.flatMap_append]; simp
      rw [or_bit (by omega) (by omega)]
      simp (disch := omega) only [hi, b3_a0, nI_ltI, nI_eq, nI_clamp, nI_1, xl_0, xg_0, xe_0, xe_m1, nI_0, xl_1, xl_2, xl_3, xl_4, xl_5, xl_6, xl_7, xl_8, xl_9, xl_10, xl_12, xl_20, xl_30, xl_32, xl_40, xl_41, xl_42, xl_48, xl_57, xl_59, xl_64, xl_97, xl_100, xl_122, xl_126, xl_128, xl_1000, xl_9999, xg_1, xg_2, xg_3, xg_4, xg_5, xg_6, xg_7, xg_8, xg_9, xg_10, xg_12, xg_20, xg_30, xg_32, xg_40, xg_41, xg_42, xg_48, xg_57, xg_59, xg_64, xg_97, xg_100, xg_122, xg_126, xg_128, xg_1000, xg_9999, xe_1, xe_2, xe_3, xe_4, xe_5, xe_6, xe_7, xe_8, xe_9, xe_10, xe_12, xe_20, xe_30, xe_32, xe_40, xe_41, xe_42, xe_48, xe_57, xe_59, xe_64, xe_97, xe_100, xe_122, xe_126, xe_128, xe_1000, xe_9999, true_implies, false_implies, not_true_eq_false, not_false_eq_true, and_true, true_and, forall_const, imp_self, lc_eq, implies_true, vin, Bool.true_eq_false, Bool.false_eq_true, false_and, and_false, or_false, false_or, or_true, true_or]
      rw [b3_nI (by omega)]
      refine ⟨fun c1 => ?_, fun c1 => ?_⟩
      · have hlf := lf_or (n := nV ti tl) hi c1
        obtain ⟨mi2, ml2, s2, V2, N2⟩ := ih (put ||| 2 ^ i) (tw ti tl (mst Y) t i) (8 * c + i) (by omega) (or_lt hput (by omega)) (tw_lt2 ht hi) mi ml z' V N
        have s1 := s_puts (ro := ro) (d := d + 1 + left) (ml := ml) V.2 ht hi
        rw [show d + 1 + left + 2 = d + 3 + left by omega] at s1
        refine ⟨_, _, _, s1, _, _, s2, ih2 _ _ _ _ V2 N2 ?_ (fun _ => rfl)⟩
        rw [hs, c1, List.foldl_append, ← hz]
        rfl
      · have c2 : put.testBit i = true := by simpa using c1
        refine ih2 _ _ _ _ V N ?_ (fun ⟨g, h1, h2⟩ => ?_)
        · rw [hs, c2, hz]; simp
        · rcases Nat.lt_or_eq_of_le (Nat.le_of_lt_succ h1) with q | q
          · exact hlast ⟨g, q, h2⟩
          · rw [q, c2] at h2; cases h2
    · refine vc_X12_orders_5 _ _ _ _ mi ml ⟨_, _, _, s_vM O V.2.1 (by omega), ?_⟩
      have hl0 : l = 0 := hlast (lf_s (by omega))
      simp (disch := omega) only [Nat.lt_irrefl, eq_true hl0, nI_ltI, nI_eq, nI_clamp, nI_1, xl_0, xg_0, xe_0, xe_m1, nI_0, xl_1, xl_2, xl_3, xl_4, xl_5, xl_6, xl_7, xl_8, xl_9, xl_10, xl_12, xl_20, xl_30, xl_32, xl_40, xl_41, xl_42, xl_48, xl_57, xl_59, xl_64, xl_97, xl_100, xl_122, xl_126, xl_128, xl_1000, xl_9999, xg_1, xg_2, xg_3, xg_4, xg_5, xg_6, xg_7, xg_8, xg_9, xg_10, xg_12, xg_20, xg_30, xg_32, xg_40, xg_41, xg_42, xg_48, xg_57, xg_59, xg_64, xg_97, xg_100, xg_122, xg_126, xg_128, xg_1000, xg_9999, xe_1, xe_2, xe_3, xe_4, xe_5, xe_6, xe_7, xe_8, xe_9, xe_10, xe_12, xe_20, xe_30, xe_32, xe_40, xe_41, xe_42, xe_48, xe_57, xe_59, xe_64, xe_97, xe_100, xe_122, xe_126, xe_128, xe_1000, xe_9999, true_implies, false_implies, not_true_eq_false, not_false_eq_true, and_true, true_and, forall_const, imp_self, lc_eq, implies_true, vin, Bool.true_eq_false, Bool.false_eq_true, false_and, and_false, or_false, false_or, or_true, true_or]
      rw [hz] at N
      exact hQ _ _ ⟨V, N⟩
set_option maxHeartbeats 1000000 in
theorem s_favours (O : okT ti) {x : Int32} : ∀ (left put t c : Nat), lf (nV ti tl) put = left → put < 2 ^ 6 → t < 2 ^ nV ti tl → ∀ (mi : cM1) (ml : cM2) (z : fSt), vP ti tl vi vl Y mi ml → fnOK z mi →
    ∃ mi' ml', cS ro (d + 3 + left) 233 [.ref 40, .int x, .int (nI put), .int (nI t), .int (nI c)] mi ml none mi' ml' ∧ vP ti tl vi vl Y mi' ml' ∧ fnOK ((ordl ti tl (mst Y) left put t c).foldl (fnote x) z) mi' := by
  have hV := nV_le ti tl
  have h6 : 2 ^ nV ti tl ≤ 2 ^ 6 := Nat.pow_le_pow_right (by decide) hV.1
  intro left
  induction left with
  | zero =>
    intro put t c hl hput ht mi ml z V N
    have hall := lf_0 hl
    refine ab_ex_q rfl rfl (fun Q hQ => vc_X12_favours_0 _ _ _ _ mi ml ?_)
    refine up0 (n := nV ti tl) (F := fun i => W_X12_favours_6 (cs ro (d + 2)) ro Q x (nI put) (nI t) (nI c) 1 (nI i) mi ml) (fun i hi ih => ?_) ?_
    · refine vc_X12_favours_6 _ _ _ _ _ _ mi ml ⟨_, _, _, s_vM O V.2.1 (by omega), ?_⟩
      have hb : b3 (nI put) i = true := by rw [b3_nI (by omega)]; exact hall i hi
      simp (disch := omega) only [hi, b3_a0, hb, nI_ltI, nI_eq, nI_clamp, nI_1, xl_0, xg_0, xe_0, xe_m1, nI_0, xl_1, xl_2, xl_3, xl_4, xl_5, xl_6, xl_7, xl_8, xl_9, xl_10, xl_12, xl_20, xl_30, xl_32, xl_40, xl_41, xl_42, xl_48, xl_57, xl_59, xl_64, xl_97, xl_100, xl_122, xl_126, xl_128, xl_1000, xl_9999, xg_1, xg_2, xg_3, xg_4, xg_5, xg_6, xg_7, xg_8, xg_9, xg_10, xg_12, xg_20, xg_30, xg_32, xg_40, xg_41, xg_42, xg_48, xg_57, xg_59, xg_64, xg_97, xg_100, xg_122, xg_126, xg_128, xg_1000, xg_9999, xe_1, xe_2, xe_3, xe_4, xe_5, xe_6, xe_7, xe_8, xe_9, xe_10, xe_12, xe_20, xe_30, xe_32, xe_40, xe_41, xe_42, xe_48, xe_57, xe_59, xe_64, xe_97, xe_100, xe_122, xe_126, xe_128, xe_1000, xe_9999, true_implies, false_implies, not_true_eq_false, not_false_eq_true, and_true, true_and, forall_const, imp_self, lc_eq, implies_true, vin, Bool.true_eq_false, Bool.false_eq_true, false_and, and_false, or_false, false_or, or_true, true_or]
      exact ih
    · refine vc_X12_favours_6 _ _ _ _ _ _ mi ml ⟨_, _, _, s_vM O V.2.1 (by omega), ?_⟩
      have e10 : ((1 : Int32) = 0) = False := eq_false (by decide)
      simp (disch := omega) only [Nat.lt_irrefl, e10, nI_ltI, nI_eq, nI_clamp, nI_1, xl_0, xg_0, xe_0, xe_m1, nI_0, xl_1, xl_2, xl_3, xl_4, xl_5, xl_6, xl_7, xl_8, xl_9, xl_10, xl_12, xl_20, xl_30, xl_32, xl_40, xl_41, xl_42, xl_48, xl_57, xl_59, xl_64, xl_97, xl_100, xl_122, xl_126, xl_128, xl_1000, xl_9999, xg_1, xg_2, xg_3, xg_4, xg_5, xg_6, xg_7, xg_8, xg_9, xg_10, xg_12, xg_20, xg_30, xg_32, xg_40, xg_41, xg_42, xg_48, xg_57, xg_59, xg_64, xg_97, xg_100, xg_122, xg_126, xg_128, xg_1000, xg_9999, xe_1, xe_2, xe_3, xe_4, xe_5, xe_6, xe_7, xe_8, xe_9, xe_10, xe_12, xe_20, xe_30, xe_32, xe_40, xe_41, xe_42, xe_48, xe_57, xe_59, xe_64, xe_97, xe_100, xe_122, xe_126, xe_128, xe_1000, xe_9999, true_implies, false_implies, not_true_eq_false, not_false_eq_true, and_true, true_and, forall_const, imp_self, lc_eq, implies_true, vin, Bool.true_eq_false, Bool.false_eq_true, false_and, and_false, or_false, false_or, or_true, true_or]
      obtain ⟨n1, n2, n3⟩ := N
      have V1 : ∀ v, vP ti tl vi vl Y (ab_ui mi 40 67 v) ml := fun v => V.ui _ rfl rfl (by decide) (by decide) (by decide) (by decide)
      have V3 : ∀ v v2 v3, vP ti tl vi vl Y (ab_ui (ab_ui (ab_ui mi 40 67 v) 40 66 v2) 40 68 v3) ml := fun v v2 v3 => ((V1 v).ui _ rfl rfl (by decide) (by decide) (by decide) (by decide)).ui _ rfl rfl (by decide) (by decide) (by decide) (by decide)
      have fin : ∀ (mi' : cM1), vP ti tl vi vl Y mi' ml → fnOK (fnote x z (t, c)) mi' → Q none (ab_G mi' ml) := fun mi' V' N' => hQ _ _ ⟨V', N'⟩
      have el : nI (pcn (b3 (nI t &&& x)) 30) = mlik x t := rfl
      refine ⟨_, _, _, s_bits _, ?_⟩
      rw [n1, n2, el]
      have A : z.1 < mlik x t → ∀ v, (v = if z.2.1 < 0 ∨ mlik x t < z.2.1 then mlik x t else z.2.1) → Q none (ab_G (ab_ui (ab_ui (ab_ui mi 40 67 v) 40 66 (mlik x t)) 40 68 (nI c)) ml) := fun h v hv => fin _ (V3 _ _ _) (by
        unfold fnote fnOK
        simp only [if_pos h]
        refine ⟨by simp [ui_app], ?_, by simp [ui_app]⟩
        rw [← hv]; simp [ui_app])
      have B : ¬ z.1 < mlik x t → ∀ v, (v = if z.2.1 < 0 ∨ mlik x t < z.2.1 then mlik x t else z.2.1) → Q none (ab_G (ab_ui mi 40 67 v) ml) := fun h v hv => fin _ (V1 _) (by
        unfold fnote fnOK
        simp only [if_neg h]
        refine ⟨by simp [ui_app]; exact n1, ?_, by simp [ui_app]; exact n3⟩
        rw [← hv]; simp [ui_app])
      refine ⟨fun c1 => ⟨fun c2 => A c2 _ (if_pos (Or.inl c1)).symm, fun c2 => B c2 _ (if_pos (Or.inl c1)).symm⟩, fun c1 => ⟨fun c3 => ⟨fun c2 => A c2 _ (if_pos (Or.inr c3)).symm, fun c2 => B c2 _ (if_pos (Or.inr c3)).symm⟩, fun c3 => ⟨fun c2 => A c2 _ (if_neg (fun q => q.elim c1 c3)).symm, fun c2 => B c2 _ (if_neg (fun q => q.elim c1 c3)).symm⟩⟩⟩
  | succ left ih =>
    intro put t c hl hput ht mi ml z V N
    refine ab_ex_q rfl rfl (fun Q hQ => vc_X12_favours_0 _ _ _ _ mi ml ?_)
    have e : ordl ti tl (mst Y) (left + 1) put t c = (List.range (nV ti tl)).flatMap (fun g => if put.testBit g = true then [] else ordl ti tl (mst Y) left (put ||| 2 ^ g) (tw ti tl (mst Y) t g) (8 * c + g)) := rfl
    rw [e] at hQ
    refine up0 (n := nV ti tl) (F := fun i => ∀ mi ml z' (l : Int32), vP ti tl vi vl Y mi ml → fnOK z' mi → z' = ((List.range i).flatMap (fun g => if put.testBit g = true then [] else ordl ti tl (mst Y) left (put ||| 2 ^ g) (tw ti tl (mst Y) t g) (8 * c + g))).foldl (fnote x) z → ((∃ g, g < i ∧ put.testBit g = false) → l = 0) → W_X12_favours_6 (cs ro (d + 3 + left)) ro Q x (nI put) (nI t) (nI c) l (nI i) mi ml) (fun i hi ih2 mi ml z' l V N hz hlast => ?_) (fun mi ml z' l V N hz hlast => ?_) mi ml z 1 V N rfl (fun ⟨g, hg, _⟩ => absurd hg (Nat.not_lt_zero g))
    · refine vc_X12_favours_6 _ _ _ _ _ _ mi ml ⟨_, _, _, s_vM O V.2.1 (by omega), ?_⟩
      have hs : (List.range (i + 1)).flatMap (fun g => if put.testBit g = true then [] else ordl ti tl (mst Y) left (put ||| 2 ^ g) (tw ti tl (mst Y) t g) (8 * c + g)) = (List.range i).flatMap (fun g => if put.testBit g = true then [] else ordl ti tl (mst Y) left (put ||| 2 ^ g) (tw ti tl (mst Y) t g) (8 * c + g)) ++ (if put.testBit i = true then [] else ordl ti tl (mst Y) left (put ||| 2 ^ i) (tw ti tl (mst Y) t i) (8 * c + i)) := by
        rw [List.range_succ, List.flatMap_append]; simp
      rw [or_bit (by omega) (by omega)]
      simp (disch := omega) only [hi, b3_a0, nI_ltI, nI_eq, nI_clamp, nI_1, xl_0, xg_0, xe_0, xe_m1, nI_0, xl_1, xl_2, xl_3, xl_4, xl_5, xl_6, xl_7, xl_8, xl_9, xl_10, xl_12, xl_20, xl_30, xl_32, xl_40, xl_41, xl_42, xl_48, xl_57, xl_59, xl_64, xl_97, xl_100, xl_122, xl_126, xl_128, xl_1000, xl_9999, xg_1, xg_2, xg_3, xg_4, xg_5, xg_6, xg_7, xg_8, xg_9, xg_10, xg_12, xg_20, xg_30, xg_32, xg_40, xg_41, xg_42, xg_48, xg_57, xg_59, xg_64, xg_97, xg_100, xg_122, xg_126, xg_128, xg_1000, xg_9999, xe_1, xe_2, xe_3, xe_4, xe_5, xe_6, xe_7, xe_8, xe_9, xe_10, xe_12, xe_20, xe_30, xe_32, xe_40, xe_41, xe_42, xe_48, xe_57, xe_59, xe_64, xe_97, xe_100, xe_122, xe_126, xe_128, xe_1000, xe_9999, true_implies, false_implies, not_true_eq_false, not_false_eq_true, and_true, true_and, forall_const, imp_self, lc_eq, implies_true, vin, Bool.true_eq_false, Bool.false_eq_true, false_and, and_false, or_false, false_or, or_true, true_or]
      rw [b3_nI (by omega)]
      refine ⟨fun c1 => ?_, fun c1 => ?_⟩
      · have hlf := lf_or (n := nV ti tl) hi c1
        obtain ⟨mi2, ml2, s2, V2, N2⟩ := ih (put ||| 2 ^ i) (tw ti tl (mst Y) t i) (8 * c + i) (by omega) (or_lt hput (by omega)) (tw_lt2 ht hi) mi ml z' V N
        have s1 := s_puts (ro := ro) (d := d + 1 + left) (ml := ml) V.2 ht hi
        rw [show d + 1 + left + 2 = d + 3 + left by omega] at s1
        have ec : (8 : Int32) * nI c + nI i = nI (8 * c + i) := by
          have : (8 : Int32) * nI c = nI (8 * c) := nI_mul 8 c
          rw [this, nI_add]
        rw [ec]
        refine ⟨_, _, _, s1, _, _, s2, ih2 _ _ _ _ V2 N2 ?_ (fun _ => rfl)⟩
        rw [hs, c1, List.foldl_append, ← hz]
        rfl
      · have c2 : put.testBit i = true := by simpa using c1
        refine ih2 _ _ _ _ V N ?_ (fun ⟨g, h1, h2⟩ => ?_)
        · rw [hs, c2, hz]; simp
        · rcases Nat.lt_or_eq_of_le (Nat.le_of_lt_succ h1) with q | q
          · exact hlast ⟨g, q, h2⟩
          · rw [q, c2] at h2; cases h2
    · refine vc_X12_favours_6 _ _ _ _ _ _ mi ml ⟨_, _, _, s_vM O V.2.1 (by omega), ?_⟩
      have hl0 : l = 0 := hlast (lf_s (by omega))
      simp (disch := omega) only [Nat.lt_irrefl, eq_true hl0, nI_ltI, nI_eq, nI_clamp, nI_1, xl_0, xg_0, xe_0, xe_m1, nI_0, xl_1, xl_2, xl_3, xl_4, xl_5, xl_6, xl_7, xl_8, xl_9, xl_10, xl_12, xl_20, xl_30, xl_32, xl_40, xl_41, xl_42, xl_48, xl_57, xl_59, xl_64, xl_97, xl_100, xl_122, xl_126, xl_128, xl_1000, xl_9999, xg_1, xg_2, xg_3, xg_4, xg_5, xg_6, xg_7, xg_8, xg_9, xg_10, xg_12, xg_20, xg_30, xg_32, xg_40, xg_41, xg_42, xg_48, xg_57, xg_59, xg_64, xg_97, xg_100, xg_122, xg_126, xg_128, xg_1000, xg_9999, xe_1, xe_2, xe_3, xe_4, xe_5, xe_6, xe_7, xe_8, xe_9, xe_10, xe_12, xe_20, xe_30, xe_32, xe_40, xe_41, xe_42, xe_48, xe_57, xe_59, xe_64, xe_97, xe_100, xe_122, xe_126, xe_128, xe_1000, xe_9999, true_implies, false_implies, not_true_eq_false, not_false_eq_true, and_true, true_and, forall_const, imp_self, lc_eq, implies_true, vin, Bool.true_eq_false, Bool.false_eq_true, false_and, and_false, or_false, false_or, or_true, true_or]
      rw [hz] at N
      exact hQ _ _ ⟨V, N⟩
end MV
