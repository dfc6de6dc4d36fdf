/-! Drafts. -/
def ws (f : Nat → Nat) (s : Nat) : Nat → Nat
  | 0 => 0
  | n + 1 => ws f s n + (if s.testBit n = true then f n else 0)
def pc (s : Nat) : Nat := pcn (b3 (nI s)) 30
def btP (f : Nat → Nat) (n : Nat) (b : Option Nat) (s : Nat) : Prop := match b with
  | none => True
  | some t => ws f t n < ws f s n ∨ (ws f s n = ws f t n ∧ pc s < pc t)
noncomputable def dbest (f : Nat → Nat) (n : Nat) (go : Nat → Prop) : Nat → Option Nat
  | 0 => none
  | m + 1 => @ite _ (go m ∧ btP f n (dbest f n go m) m) (Classical.propDecidable _) (some m) (dbest f n go m)
def dI (b : Option Nat) : Int32 := match b with
  | none => -1
  | some t => nI t
noncomputable def goN (ti : cM1) (tl : cM2) (s : Nat) : Prop := goeP ti tl (b3 (nI s))
noncomputable def nD (ti : cM1) (tl : cM2) : Nat := if 12 < nG ti tl then 12 else nG ti tl
noncomputable def drf (ti : cM1) (tl : cM2) (wt : Nat) : Option Nat := dbest (wei ti tl wt) (nD ti tl) (goN ti tl) (2 ^ nD ti tl)
theorem dbest_lt (f : Nat → Nat) (n : Nat) (go : Nat → Prop) : ∀ m t, dbest f n go m = some t → t < m ∧ go t
  | 0, t, h => by cases h
  | m + 1, t, h => by
    by_cases c : go m ∧ btP f n (dbest f n go m) m
    · have e : dbest f n go (m + 1) = some m := if_pos c
      rw [e] at h
      cases h
      exact ⟨by omega, c.1⟩
    · have e : dbest f n go (m + 1) = dbest f n go m := if_neg c
      rw [e] at h
      have := dbest_lt f n go m t h
      exact ⟨by omega, this.2⟩
theorem nD_le (ti : cM1) (tl : cM2) : nD ti tl ≤ 12 ∧ nD ti tl ≤ nG ti tl := by
  unfold nD
  split <;> omega
theorem p12 {n : Nat} (h : n ≤ 12) : 2 ^ n ≤ 4096 := Nat.pow_le_pow_right (by decide) h
theorem drf_lt {ti : cM1} {tl : cM2} {wt t : Nat} (h : drf ti tl wt = some t) : t < 2 ^ nD ti tl ∧ t < 4096 ∧ goN ti tl t := by
  have h1 := dbest_lt _ _ _ _ _ h
  have h2 := p12 (nD_le ti tl).1
  exact ⟨h1.1, by omega, h1.2⟩
theorem ws_le {f : Nat → Nat} {M : Nat} (hf : ∀ g, f g ≤ M) (s : Nat) : ∀ n, ws f s n ≤ n * M
  | 0 => Nat.zero_le _
  | n + 1 => by
    have ih := ws_le hf s n
    have := hf n
    show ws f s n + (if s.testBit n = true then f n else 0) ≤ _
    rw [Nat.succ_mul]
    split <;> omega
theorem tb_hi {s i : Nat} (h : s % 2 ^ (i + 1) = 0) (j : Nat) : (s + 2 ^ i).testBit j = (s.testBit j || decide (j = i)) ∧ s.testBit i = false := by
  obtain ⟨q, hq⟩ : ∃ q, s = 2 ^ (i + 1) * q := ⟨s / 2 ^ (i + 1), by have := Nat.div_add_mod s (2 ^ (i + 1)); omega⟩
  have hlt : 2 ^ i < 2 ^ (i + 1) := by rw [Nat.pow_succ]; have := Nat.two_pow_pos i; omega
  have h0 : ∀ j, s.testBit j = if j < i + 1 then false else q.testBit (j - (i + 1)) := fun j => by
    have := tb_mid i q 0 (Nat.two_pow_pos _) j
    rw [Nat.add_zero, ← hq, Nat.zero_testBit] at this
    exact this
  have h1 := tb_mid i q (2 ^ i) hlt j
  rw [← hq] at h1
  rw [h1, h0 j, h0 i, Nat.testBit_two_pow]
  refine ⟨?_, by simp⟩
  by_cases e : j < i + 1
  · rw [if_pos e, if_pos e]
    by_cases e2 : j = i
    · simp [e2]
    · have : ¬ i = j := fun h => e2 h.symm
      simp [e2, this]
  · have e2 : ¬ j = i := by omega
    rw [if_neg e, if_neg e]
    simp [e2]
theorem ws_hi {f : Nat → Nat} {s i : Nat} (h : s % 2 ^ (i + 1) = 0) : ∀ n, ws f (s + 2 ^ i) n = ws f s n + (if i < n then f i else 0)
  | 0 => by simp [ws]
  | n + 1 => by
    have ih := ws_hi (f := f) h n
    show ws f (s + 2 ^ i) n + (if (s + 2 ^ i).testBit n = true then f n else 0) = ws f s n + (if s.testBit n = true then f n else 0) + _
    rw [ih, (tb_hi h n).1]
    by_cases e : n = i
    · rw [e, (tb_hi h i).2]
      simp
    · have : (i < n + 1) = (i < n) := propext (by omega)
      simp only [e, decide_false, Bool.or_false, this]
      omega
theorem ws_0 (f : Nat → Nat) : ∀ n, ws f 0 n = 0
  | 0 => rfl
  | n + 1 => by
    show ws f 0 n + _ = 0
    rw [ws_0 f n, Nat.zero_testBit]
    simp
theorem or_hi {s i : Nat} (hi : i < 30) (hs : s < 2 ^ 30) (h : s % 2 ^ (i + 1) = 0) : nI s ||| ((1 : Int32) <<< (nI i &&& 31)) = nI (s + 2 ^ i) := by
  have h2 : 2 ^ i ≤ 2 ^ 29 := Nat.pow_le_pow_right (by decide) (by omega)
  apply b3_ext
  intro j hj
  rw [b3_orbit _ (by omega), b3_nI (by omega), b3_nI (by omega), (tb_hi h j).1]
theorem pc_32 {s : Nat} (h : s < 2 ^ 30) : pcn (b3 (nI s)) 32 = pc s := by
  apply pcn_cut (by decide)
  intro i h1 h2
  rw [b3_nI (by omega)]
  exact Nat.testBit_lt_two_pow (Nat.lt_of_lt_of_le h (Nat.pow_le_pow_right (by decide) h1))
section DR
variable {ro : ab_E} {d : Nat} {ti mi : cM1} {tl ml : cM2} {f : Nat → Nat} {n : Nat}
/-- the best so far -/
def dOK (f : Nat → Nat) (n : Nat) (b : Option Nat) (mi : cM1) : Prop := match b with
  | none => mi 34 3 = -1 ∧ mi 34 4 = -1
  | some t => mi 34 3 = nI t ∧ mi 34 4 = nI (ws f t n) ∧ t < 4096
theorem s_isBetter (hf : ∀ g, f g ≤ 128) (hn : n ≤ 12) {b : Option Nat} (D : dOK f n b mi) {s : Nat} (hs : s < 4096) : cS ro (d + 2) 23 [.ref 34, .int (nI s), .int (nI (ws f s n))] mi ml (some (.int (pI (btP f n b s)))) mi ml := by
  have h1 := ws_le hf s n
  have p1 := pcn_le (b3 (nI s)) 30
  refine ab_sem_q rfl rfl (fun Q hQ => vc_X3_isBetter_0 _ _ mi ml ?_)
  cases b with
  | none =>
    rw [D.2]
    have e : ((-1 : Int32) < nI (ws f s n)) = True := eq_true (by
      rw [Int32.lt_iff_toInt_lt, nI_toInt (by omega)]
      have : ((-1 : Int32)).toInt = -1 := by decide
      omega)
    rw [pI_1 (P := btP f n none s) trivial] at hQ
    simp only [e, true_implies, not_true_eq_false, false_implies, and_true]
    exact hQ
  | some t =>
    obtain ⟨D1, D2, D3⟩ := D
    have h2 := ws_le hf t n
    have p2 := pcn_le (b3 (nI t)) 30
    rw [D2]
    simp (disch := omega) only [nI_ltI, nI_eq, nI_clamp, nI_1, xl_0, xg_0, xe_0, xe_m1, nI_0, xl_1, xl_2, xl_3, xl_4, xl_5, xl_6, xl_7, xl_8, xl_9, xl_10, xl_12, xl_20, xl_30, xl_32, xl_40, xl_41, xl_42, xl_48, xl_57, xl_59, xl_64, xl_97, xl_100, xl_122, xl_126, xl_128, xl_1000, xl_9999, xg_1, xg_2, xg_3, xg_4, xg_5, xg_6, xg_7, xg_8, xg_9, xg_10, xg_12, xg_20, xg_30, xg_32, xg_40, xg_41, xg_42, xg_48, xg_57, xg_59, xg_64, xg_97, xg_100, xg_122, xg_126, xg_128, xg_1000, xg_9999, xe_1, xe_2, xe_3, xe_4, xe_5, xe_6, xe_7, xe_8, xe_9, xe_10, xe_12, xe_20, xe_30, xe_32, xe_40, xe_41, xe_42, xe_48, xe_57, xe_59, xe_64, xe_97, xe_100, xe_122, xe_126, xe_128, xe_1000, xe_9999, true_implies, false_implies, not_true_eq_false, not_false_eq_true, and_true, true_and, forall_const, imp_self, lc_eq, implies_true, vin, Bool.true_eq_false, Bool.false_eq_true, false_and, and_false, or_false, false_or, or_true, true_or]
    refine ⟨fun c => ?_, fun c => ⟨fun c2 => ⟨_, _, _, s_bc3 _, _, _, _, s_bc3 _, ?_⟩, fun c2 => ?_⟩⟩
    · rw [pI_1 (P := btP f n (some t) s) (Or.inl c)] at hQ; exact hQ
    · rw [D1, pc_32 (by omega), pc_32 (by omega), nI_ltI (by unfold pc; omega) (by unfold pc; omega)]
      refine ⟨fun c3 => ?_, fun c3 => ?_⟩
      · rw [pI_1 (P := btP f n (some t) s) (Or.inr ⟨c2, c3⟩)] at hQ; exact hQ
      · rw [pI_0 (P := btP f n (some t) s) (fun h => h.elim c (fun h => c3 h.2))] at hQ; exact hQ
    · rw [pI_0 (P := btP f n (some t) s) (fun h => h.elim c (fun h => c2 h.1))] at hQ; exact hQ
set_option maxHeartbeats 1000000 in
theorem s_search (O : okT ti) (hf : ∀ g, f g ≤ 128) (hn : n ≤ 12) : ∀ (i : Nat), i ≤ n → ∀ (s : Nat), s % 2 ^ i = 0 → s + 2 ^ i ≤ 4096 → ∀ (mi : cM1) (ml : cM2), cP ti tl mi ml → dOK f n (dbest f n (goN ti tl) s) mi → (∀ g, g < n → mi 35 g = nI (f g)) →
    ∃ mi' ml', cS ro (d + 6 + i) 22 [.ref 34, .int (nI i - 1), .int (nI s), .int (nI (ws f s n))] mi ml none mi' ml' ∧ cP ti tl mi' ml' ∧ dOK f n (dbest f n (goN ti tl) (s + 2 ^ i)) mi' ∧ (∀ g, g < n → mi' 35 g = nI (f g)) := by
  intro i
  induction i with
  | zero =>
    intro _ s _ hs mi ml C D Z
    refine ab_ex_q rfl rfl (fun Q hQ => vc_X3_search_0 _ _ _ mi ml ?_)
    have e : (nI 0 - 1 < 0) = True := eq_true (by decide)
    simp only [e, true_implies, not_true_eq_false, false_implies, and_true]
    have hbs := dbest_lt f n (goN ti tl) s
    refine ⟨_, _, _, s_isBetter (ro := ro) (d := d + 3) hf hn D (by omega), ?_⟩
    rw [pI_e0]
    have hst : dbest f n (goN ti tl) (s + 2 ^ 0) = @ite _ (goN ti tl s ∧ btP f n (dbest f n (goN ti tl) s) s) (Classical.propDecidable _) (some s) (dbest f n (goN ti tl) s) := rfl
    refine ⟨fun c => ?_, fun c => ?_⟩
    · rw [hst, if_neg (fun h => c h.2)] at hQ
      exact hQ _ _ ⟨C, D, Z⟩
    · obtain ⟨ml', s1, C1, _⟩ := s_goes (ro := ro) (d := d) O C (s := s) (by omega)
      refine ⟨_, _, _, s1, ?_⟩
      rw [pI_e0]
      refine ⟨fun c2 => ?_, fun c2 => ?_⟩
      · rw [hst, if_neg (fun h => c2 h.1)] at hQ
        exact hQ _ _ ⟨C1, D, Z⟩
      · rw [hst, if_pos ⟨Classical.not_not.1 c2, Classical.not_not.1 c⟩] at hQ
        refine hQ _ _ ⟨(C1.ui _ rfl).ui _ rfl, ⟨?_, ?_, by omega⟩, fun g hg => ?_⟩
        · simp [ui_app]
        · simp [ui_app]
        · simp [ui_app]; exact Z g hg
  | succ i ih =>
    intro hi s hm hs mi ml C D Z
    have hp : 2 ^ (i + 1) = 2 ^ i + 2 ^ i := by rw [Nat.pow_succ]; omega
    have hm1 : s % 2 ^ i = 0 := Nat.mod_eq_zero_of_dvd (Nat.dvd_trans ⟨2, by omega⟩ (Nat.dvd_of_mod_eq_zero hm))
    obtain ⟨mi1, ml1, s1, C1, D1, Z1⟩ := ih (by omega) s hm1 (by omega) mi ml C D Z
    have hm2 : (s + 2 ^ i) % 2 ^ i = 0 := by rw [Nat.add_mod_right]; exact hm1
    obtain ⟨mi2, ml2, s2, C2, D2, Z2⟩ := ih (by omega) (s + 2 ^ i) hm2 (by omega) mi1 ml1 C1 D1 Z1
    refine ab_ex_q rfl rfl (fun Q hQ => vc_X3_search_0 _ _ _ mi ml ?_)
    rw [nI_pred]
    simp (disch := omega) only [show i < 12 by omega, nI_ltI, nI_eq, nI_clamp, nI_1, xl_0, xg_0, xe_0, xe_m1, nI_0, xl_1, xl_2, xl_3, xl_4, xl_5, xl_6, xl_7, xl_8, xl_9, xl_10, xl_12, xl_20, xl_30, xl_32, xl_40, xl_41, xl_42, xl_48, xl_57, xl_59, xl_64, xl_97, xl_100, xl_122, xl_126, xl_128, xl_1000, xl_9999, xg_1, xg_2, xg_3, xg_4, xg_5, xg_6, xg_7, xg_8, xg_9, xg_10, xg_12, xg_20, xg_30, xg_32, xg_40, xg_41, xg_42, xg_48, xg_57, xg_59, xg_64, xg_97, xg_100, xg_122, xg_126, xg_128, xg_1000, xg_9999, xe_1, xe_2, xe_3, xe_4, xe_5, xe_6, xe_7, xe_8, xe_9, xe_10, xe_12, xe_20, xe_30, xe_32, xe_40, xe_41, xe_42, xe_48, xe_57, xe_59, xe_64, xe_97, xe_100, xe_122, xe_126, xe_128, xe_1000, xe_9999, true_implies, false_implies, not_true_eq_false, not_false_eq_true, and_true, true_and, forall_const, imp_self, lc_eq, implies_true, vin, Bool.true_eq_false, Bool.false_eq_true, false_and, and_false, or_false, false_or, or_true, true_or]
    refine ⟨_, _, s1, ?_⟩
    rw [or_hi (by omega) (by omega) hm, Z1 i (by omega), nI_add]
    have e : ws f s n + f i = ws f (s + 2 ^ i) n := by rw [ws_hi hm, if_pos (by omega)]
    rw [e]
    refine ⟨_, _, s2, hQ _ _ ⟨C2, ?_, Z2⟩⟩
    rw [hp, ← Nat.add_assoc]
    exact D2
theorem s_pick (O : okT ti) (C : cP ti tl mi ml) {wt : Nat} (hw : wt < 4) : ∃ mi' ml', cS ro (d + 19) 21 [.ref 34, .int (nI wt), .int (cSeen ti)] mi ml (some (.int (dI (drf ti tl wt)))) mi' ml' ∧ cP ti tl mi' ml' ∧ ∀ t, drf ti tl wt = some t → mi' 34 4 = nI (ws (wei ti tl wt) t (nD ti tl)) := by
  have hW := O.W2
  have hG := nG_le ti tl
  have hD := nD_le ti tl
  refine ab_ex_q rfl rfl (fun Q hQ => vc_X3_pick_0 _ _ mi ml ?_)
  have e0 : (if (12 : Int32) < mi 25 4 then (12 : Int32) else mi 25 4) = nI (nD ti tl) := by
    rw [C.2.1.G]
    unfold nD
    by_cases c : 12 < nG ti tl
    · rw [if_pos c, if_pos ((xg_12 (a := nG ti tl) (by omega)) ▸ c)]; rfl
    · rw [if_neg c, if_neg ((xg_12 (a := nG ti tl) (by omega)) ▸ c)]
  rw [e0]
  refine up0 (n := nD ti tl) (F := fun i => ∀ mi ml, cP ti tl mi ml → (∀ g, g < i → mi 35 g = nI (wei ti tl wt g)) → W_X3_pick_16 (cs ro (d + 18)) ro Q (nI wt) (cSeen ti) (nI (nD ti tl)) (nI i) mi ml) (fun i hi ih mi ml C Z => ?_) (fun mi ml C Z => ?_) mi ml C (fun g hg => absurd hg (Nat.not_lt_zero g))
  · refine vc_X3_pick_16 _ _ _ _ mi ml ?_
    obtain ⟨ml', s1, C1, _⟩ := s_weigh (ro := ro) (d := d + 13) O C (g := i) (by omega) hw
    simp (disch := omega) only [hi, nI_ltI, nI_eq, nI_clamp, nI_1, xl_0, xg_0, xe_0, xe_m1, nI_0, xl_1, xl_2, xl_3, xl_4, xl_5, xl_6, xl_7, xl_8, xl_9, xl_10, xl_12, xl_20, xl_30, xl_32, xl_40, xl_41, xl_42, xl_48, xl_57, xl_59, xl_64, xl_97, xl_100, xl_122, xl_126, xl_128, xl_1000, xl_9999, xg_1, xg_2, xg_3, xg_4, xg_5, xg_6, xg_7, xg_8, xg_9, xg_10, xg_12, xg_20, xg_30, xg_32, xg_40, xg_41, xg_42, xg_48, xg_57, xg_59, xg_64, xg_97, xg_100, xg_122, xg_126, xg_128, xg_1000, xg_9999, xe_1, xe_2, xe_3, xe_4, xe_5, xe_6, xe_7, xe_8, xe_9, xe_10, xe_12, xe_20, xe_30, xe_32, xe_40, xe_41, xe_42, xe_48, xe_57, xe_59, xe_64, xe_97, xe_100, xe_122, xe_126, xe_128, xe_1000, xe_9999, true_implies, false_implies, not_true_eq_false, not_false_eq_true, and_true, true_and, forall_const, imp_self, lc_eq, implies_true, vin, Bool.true_eq_false, Bool.false_eq_true, false_and, and_false, or_false, false_or, or_true, true_or]
    refine ⟨_, _, _, s1, ih _ _ (C1.ui _ rfl) (fun g hg => ?_)⟩
    rw [ui_app, if_pos rfl]
    by_cases e : g = i
    · rw [if_pos e, e]
    · rw [if_neg e]; exact Z g (by omega)
  · refine vc_X3_pick_16 _ _ _ _ mi ml ?_
    have h2 := p12 hD.1
    obtain ⟨mi', ml', s1, C1, D1, _⟩ := s_search (ro := ro) (d := d + 12 - nD ti tl) (f := wei ti tl wt) (n := nD ti tl) O (wei_le ti tl O wt) hD.1 (nD ti tl) (Nat.le_refl _) 0 (by simp) (by omega) (ab_ui (ab_ui mi 34 3 (-1)) 34 4 (-1)) ml ((C.ui _ rfl).ui _ rfl) ⟨by simp [ui_app], by simp [ui_app]⟩ (fun g hg => by simp [ui_app]; exact Z g hg)
    rw [ws_0, show d + 12 - nD ti tl + 6 + nD ti tl = d + 18 by omega] at s1
    rw [Nat.zero_add] at D1
    simp (disch := omega) only [Nat.lt_irrefl, nI_ltI, nI_eq, nI_clamp, nI_1, xl_0, xg_0, xe_0, xe_m1, nI_0, xl_1, xl_2, xl_3, xl_4, xl_5, xl_6, xl_7, xl_8, xl_9, xl_10, xl_12, xl_20, xl_30, xl_32, xl_40, xl_41, xl_42, xl_48, xl_57, xl_59, xl_64, xl_97, xl_100, xl_122, xl_126, xl_128, xl_1000, xl_9999, xg_1, xg_2, xg_3, xg_4, xg_5, xg_6, xg_7, xg_8, xg_9, xg_10, xg_12, xg_20, xg_30, xg_32, xg_40, xg_41, xg_42, xg_48, xg_57, xg_59, xg_64, xg_97, xg_100, xg_122, xg_126, xg_128, xg_1000, xg_9999, xe_1, xe_2, xe_3, xe_4, xe_5, xe_6, xe_7, xe_8, xe_9, xe_10, xe_12, xe_20, xe_30, xe_32, xe_40, xe_41, xe_42, xe_48, xe_57, xe_59, xe_64, xe_97, xe_100, xe_122, xe_126, xe_128, xe_1000, xe_9999, true_implies, false_implies, not_true_eq_false, not_false_eq_true, and_true, true_and, forall_const, imp_self, lc_eq, implies_true, vin, Bool.true_eq_false, Bool.false_eq_true, false_and, and_false, or_false, false_or, or_true, true_or]
    refine ⟨_, _, s1, ?_⟩
    have D2 : dOK (wei ti tl wt) (nD ti tl) (drf ti tl wt) mi' := D1
    have e : mi' 34 3 = dI (drf ti tl wt) := by
      cases h : drf ti tl wt with
      | none => rw [h] at D2; exact D2.1
      | some t => rw [h] at D2; exact D2.1
    rw [e]
    refine hQ _ _ ⟨C1, fun t ht => ?_⟩
    rw [ht] at D2
    exact D2.2.1
end DR
