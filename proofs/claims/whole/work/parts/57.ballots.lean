/-! Ballots. -/
theorem ui_ui (m : cM1) (k j : Nat) (v w : Int32) : ab_ui (ab_ui m k j v) k j w = ab_ui m k j w := by
  funext a b
  simp only [ui_app]
  by_cases h : a = k
  · by_cases h2 : b = j
    · simp [h, h2]
    · simp [h, h2]
  · simp [h]
theorem ul_ul (m : cM2) (k j : Nat) (v w : Int64) : ab_ul (ab_ul m k j v) k j w = ab_ul m k j w := by
  funext a b
  simp only [ul_app]
  by_cases h : a = k
  · by_cases h2 : b = j
    · simp [h, h2]
    · simp [h, h2]
  · simp [h]
theorem or_bit {s g : Nat} (hs : s < 2 ^ 30) (hg : g < 30) : nI s ||| ((1 : Int32) <<< (nI g &&& 31)) = nI (s ||| 2 ^ g) := by
  have h2 : 2 ^ g < 2 ^ 30 := Nat.pow_lt_pow_right (by decide) hg
  have h3 := Nat.or_lt_two_pow hs h2
  apply b3_ext
  intro j hj
  rw [b3_orbit _ (by omega), b3_nI (by omega), b3_nI (by omega), Nat.testBit_or, Nat.testBit_two_pow]
  congr 1
  exact decide_eq_decide.2 eq_comm
theorem or_lt {s g m : Nat} (hs : s < 2 ^ m) (hg : g < m) : s ||| 2 ^ g < 2 ^ m := Nat.or_lt_two_pow hs (Nat.pow_lt_pow_right (by decide) hg)
theorem bit3_0 (x : Int32) {k : Nat} (hk : k < 32) : (x &&& ((1 : Int32) <<< (nI k &&& 31)) = 0) = (b3 x k = false) := by
  apply propext
  rw [b3_zero]
  constructor
  · intro h
    have := h k hk
    rw [b3_and, b3_bit hk] at this
    simpa using this
  · intro h i hi
    rw [b3_and, b3_bit hk]
    by_cases e : i = k
    · rw [e, h]; rfl
    · simp [e]
noncomputable def nV (ti : cM1) (tl : cM2) : Nat := if 6 < nG ti tl then 6 else nG ti tl
theorem nV_le (ti : cM1) (tl : cM2) : nV ti tl ≤ 6 ∧ nV ti tl ≤ nG ti tl := by
  unfold nV
  split <;> omega
/-- the votes for g, if the house x votes otherwise on y -/
def vt (ti : cM1) (x y : Int32) (g : Nat) : Nat := pcn (fun o => b3 (if nI o = x then ti 37 o ^^^ y else ti 37 o) g) 7
noncomputable def tw (ti : cM1) (tl : cM2) (p : Nat → Prop) (t g : Nat) : Nat := @ite _ (p g ∧ goN ti tl (t ||| 2 ^ g)) (Classical.propDecidable _) (t ||| 2 ^ g) t
noncomputable def pln (ti : cM1) (tl : cM2) (p : Nat → Prop) : Nat → Nat
  | 0 => 0
  | n + 1 => tw ti tl p (pln ti tl p n) n
noncomputable def ordl (ti : cM1) (tl : cM2) (p : Nat → Prop) : Nat → Nat → Nat → Nat → List (Nat × Nat)
  | 0, _, t, c => [(t, c)]
  | left + 1, put, t, c => (List.range (nV ti tl)).flatMap (fun g => if put.testBit g = true then [] else ordl ti tl p left (put ||| 2 ^ g) (tw ti tl p t g) (8 * c + g))
theorem tw_lt {ti : cM1} {tl : cM2} {p : Nat → Prop} {t g : Nat} (ht : t < 2 ^ 6) (hg : g < 6) : tw ti tl p t g < 2 ^ 6 := by
  unfold tw
  by_cases c : p g ∧ goN ti tl (t ||| 2 ^ g)
  · rw [if_pos c]; exact or_lt ht hg
  · rw [if_neg c]; exact ht
theorem pln_lt {ti : cM1} {tl : cM2} {p : Nat → Prop} : ∀ n, n ≤ 6 → pln ti tl p n < 2 ^ 6
  | 0, _ => by show 0 < 2 ^ 6; decide
  | n + 1, h => tw_lt (pln_lt n (by omega)) (by omega)
section BA
variable {ro : ab_E} {d : Nat} {ti mi : cM1} {tl ml : cM2}
theorem s_ready (C : cP ti tl mi ml) (O : okT ti) (x y : Int32) : ∃ r, cS ro (d + 1) 4 [.ref 36, .int x, .int y] mi ml none (ab_ui (ab_ui mi 36 2 (nI (nV ti tl))) 36 3 r) ml ∧ ∀ g, b3 r g = pB (g < nV ti tl ∧ 4 ≤ vt ti x y g) := by
  have hW := O.W2
  have hG := nG_le ti tl
  have hV := nV_le ti tl
  have e0 : (if (6 : Int32) < mi 25 4 then (6 : Int32) else mi 25 4) = nI (nV ti tl) := by
    rw [C.2.1.G]
    unfold nV
    by_cases c : 6 < nG ti tl
    · rw [if_pos c, if_pos ((xg_6 (a := nG ti tl) (by omega)) ▸ c)]; rfl
    · rw [if_neg c, if_neg ((xg_6 (a := nG ti tl) (by omega)) ▸ c)]
  have key : ∃ mi' ml', cS ro (d + 1) 4 [.ref 36, .int x, .int y] mi ml none mi' ml' ∧ (ml' = ml ∧ ∃ r, mi' = ab_ui (ab_ui mi 36 2 (nI (nV ti tl))) 36 3 r ∧ ∀ g, b3 r g = pB (g < nV ti tl ∧ 4 ≤ vt ti x y g)) := by
    refine ab_ex_q rfl rfl (fun Q hQ => vc_X0_ready_0 _ _ mi ml ?_)
    rw [e0]
    refine up0 (n := nV ti tl) (F := fun i => ∀ r, (∀ g, b3 r g = pB (g < i ∧ 4 ≤ vt ti x y g)) → W_X0_ready_23 (cs ro d) ro Q x y (nI i) (ab_ui (ab_ui mi 36 2 (nI (nV ti tl))) 36 3 r) ml) (fun i hi ih r hr => ?_) (fun r hr => ?_) 0 (fun g => ?_)
    · refine vc_X0_ready_23 _ _ _ _ ml ?_
      have e2 : ab_ui (ab_ui mi 36 2 (nI (nV ti tl))) 36 3 r 36 2 = nI (nV ti tl) := by simp [ui_app]
      simp (disch := omega) only [e2, hi, nI_ltI, nI_eq, nI_clamp, nI_1, xl_0, xg_0, xe_0, xe_m1, nI_0, xl_1, xl_2, xl_3, xl_4, xl_5, xl_6, xl_7, xl_8, xl_9, xl_10, xl_12, xl_20, xl_30, xl_32, xl_40, xl_41, xl_42, xl_48, xl_57, xl_59, xl_64, xl_97, xl_100, xl_122, xl_126, xl_128, xl_1000, xl_9999, xg_1, xg_2, xg_3, xg_4, xg_5, xg_6, xg_7, xg_8, xg_9, xg_10, xg_12, xg_20, xg_30, xg_32, xg_40, xg_41, xg_42, xg_48, xg_57, xg_59, xg_64, xg_97, xg_100, xg_122, xg_126, xg_128, xg_1000, xg_9999, xe_1, xe_2, xe_3, xe_4, xe_5, xe_6, xe_7, xe_8, xe_9, xe_10, xe_12, xe_20, xe_30, xe_32, xe_40, xe_41, xe_42, xe_48, xe_57, xe_59, xe_64, xe_97, xe_100, xe_122, xe_126, xe_128, xe_1000, xe_9999, true_implies, false_implies, not_true_eq_false, not_false_eq_true, and_true, true_and, forall_const, imp_self, lc_eq, implies_true, vin, Bool.true_eq_false, Bool.false_eq_true, false_and, and_false, or_false, false_or, or_true, true_or]
      refine up0 (n := 7) (F := fun o => W_X0_ready_37 (cs ro d) ro Q x y (nI i) (nI (pcn (fun o => b3 (if nI o = x then ti 37 o ^^^ y else ti 37 o) i) o)) (nI o) (ab_ui (ab_ui mi 36 2 (nI (nV ti tl))) 36 3 r) ml) (fun o ho ih2 => ?_) ?_
      · refine vc_X0_ready_37 _ _ _ _ _ _ ml ?_
        have e37 : (ab_ui (ab_ui mi 36 2 (nI (nV ti tl))) 36 3 r) 37 = ti 37 := by
          rw [← C.1.e37]; funext j; simp [ui_app]
        simp (disch := omega) only [e37, ho, b3_at, nI_ltI, nI_eq, nI_clamp, nI_1, xl_0, xg_0, xe_0, xe_m1, nI_0, xl_1, xl_2, xl_3, xl_4, xl_5, xl_6, xl_7, xl_8, xl_9, xl_10, xl_12, xl_20, xl_30, xl_32, xl_40, xl_41, xl_42, xl_48, xl_57, xl_59, xl_64, xl_97, xl_100, xl_122, xl_126, xl_128, xl_1000, xl_9999, xg_1, xg_2, xg_3, xg_4, xg_5, xg_6, xg_7, xg_8, xg_9, xg_10, xg_12, xg_20, xg_30, xg_32, xg_40, xg_41, xg_42, xg_48, xg_57, xg_59, xg_64, xg_97, xg_100, xg_122, xg_126, xg_128, xg_1000, xg_9999, xe_1, xe_2, xe_3, xe_4, xe_5, xe_6, xe_7, xe_8, xe_9, xe_10, xe_12, xe_20, xe_30, xe_32, xe_40, xe_41, xe_42, xe_48, xe_57, xe_59, xe_64, xe_97, xe_100, xe_122, xe_126, xe_128, xe_1000, xe_9999, true_implies, false_implies, not_true_eq_false, not_false_eq_true, and_true, true_and, forall_const, imp_self, lc_eq, implies_true, vin, Bool.true_eq_false, Bool.false_eq_true, false_and, and_false, or_false, false_or, or_true, true_or]
        have st : ∀ z : Int32, (if nI o = x then ti 37 o ^^^ y else ti 37 o) = z → W_X0_ready_37 (cs ro d) ro Q x y (nI i) (nI (pcn (fun o => b3 (if nI o = x then ti 37 o ^^^ y else ti 37 o) i) o) + (if b3 z i = true then 1 else 0)) (nI (o + 1)) (ab_ui (ab_ui mi 36 2 (nI (nV ti tl))) 36 3 r) ml := fun z hz => by
          cases hb : b3 z i with
          | true =>
            have q := pcn_s1 (f := fun o => b3 (if nI o = x then ti 37 o ^^^ y else ti 37 o) i) (n := o) (by show b3 (if nI o = x then ti 37 o ^^^ y else ti 37 o) i = true; rw [hz]; exact hb)
            rw [if_pos rfl, nI_1, q]; exact ih2
          | false =>
            have q := pcn_s0 (f := fun o => b3 (if nI o = x then ti 37 o ^^^ y else ti 37 o) i) (n := o) (by show b3 (if nI o = x then ti 37 o ^^^ y else ti 37 o) i = false; rw [hz]; exact hb)
            rw [if_neg (by decide), Int32.add_zero, q]; exact ih2
        exact ⟨fun c => st _ (if_pos c), fun c => st _ (if_neg c)⟩
      · refine vc_X0_ready_37 _ _ _ _ _ _ ml ?_
        have hv : vt ti x y i ≤ 7 := pcn_le _ 7
        show _
        have ev : pcn (fun o => b3 (if nI o = x then ti 37 o ^^^ y else ti 37 o) i) 7 = vt ti x y i := rfl
        rw [ev]
        simp (disch := omega) only [Nat.lt_irrefl, nI_ltI, nI_eq, nI_clamp, nI_1, xl_0, xg_0, xe_0, xe_m1, nI_0, xl_1, xl_2, xl_3, xl_4, xl_5, xl_6, xl_7, xl_8, xl_9, xl_10, xl_12, xl_20, xl_30, xl_32, xl_40, xl_41, xl_42, xl_48, xl_57, xl_59, xl_64, xl_97, xl_100, xl_122, xl_126, xl_128, xl_1000, xl_9999, xg_1, xg_2, xg_3, xg_4, xg_5, xg_6, xg_7, xg_8, xg_9, xg_10, xg_12, xg_20, xg_30, xg_32, xg_40, xg_41, xg_42, xg_48, xg_57, xg_59, xg_64, xg_97, xg_100, xg_122, xg_126, xg_128, xg_1000, xg_9999, xe_1, xe_2, xe_3, xe_4, xe_5, xe_6, xe_7, xe_8, xe_9, xe_10, xe_12, xe_20, xe_30, xe_32, xe_40, xe_41, xe_42, xe_48, xe_57, xe_59, xe_64, xe_97, xe_100, xe_122, xe_126, xe_128, xe_1000, xe_9999, true_implies, false_implies, not_true_eq_false, not_false_eq_true, and_true, true_and, forall_const, imp_self, lc_eq, implies_true, vin, Bool.true_eq_false, Bool.false_eq_true, false_and, and_false, or_false, false_or, or_true, true_or]
        have e3 : ab_ui (ab_ui mi 36 2 (nI (nV ti tl))) 36 3 r 36 3 = r := by simp [ui_app]
        rw [e3, ui_ui]
        refine ⟨fun c => ih _ (fun g => ?_), fun c => ih _ (fun g => ?_)⟩
        · rw [hr]
          apply pB_congr
          constructor
          · rintro ⟨h1, h2⟩; exact ⟨by omega, h2⟩
          · rintro ⟨h1, h2⟩
            refine ⟨?_, h2⟩
            rcases Nat.lt_or_eq_of_le (Nat.le_of_lt_succ h1) with h | h
            · exact h
            · rw [h] at h2; omega
        · rw [b3_orbit _ (by omega), hr]
          apply pB_eq
          rw [Bool.or_eq_true, pB_iff, decide_eq_true_iff]
          constructor
          · rintro (⟨h1, h2⟩ | h)
            · exact ⟨by omega, h2⟩
            · rw [h]; exact ⟨by omega, by omega⟩
          · rintro ⟨h1, h2⟩
            rcases Nat.lt_or_eq_of_le (Nat.le_of_lt_succ h1) with h | h
            · exact Or.inl ⟨h, h2⟩
            · exact Or.inr h
    · refine vc_X0_ready_23 _ _ _ _ ml ?_
      have e2 : ab_ui (ab_ui mi 36 2 (nI (nV ti tl))) 36 3 r 36 2 = nI (nV ti tl) := by simp [ui_app]
      simp (disch := omega) only [e2, Nat.lt_irrefl, nI_ltI, nI_eq, nI_clamp, nI_1, xl_0, xg_0, xe_0, xe_m1, nI_0, xl_1, xl_2, xl_3, xl_4, xl_5, xl_6, xl_7, xl_8, xl_9, xl_10, xl_12, xl_20, xl_30, xl_32, xl_40, xl_41, xl_42, xl_48, xl_57, xl_59, xl_64, xl_97, xl_100, xl_122, xl_126, xl_128, xl_1000, xl_9999, xg_1, xg_2, xg_3, xg_4, xg_5, xg_6, xg_7, xg_8, xg_9, xg_10, xg_12, xg_20, xg_30, xg_32, xg_40, xg_41, xg_42, xg_48, xg_57, xg_59, xg_64, xg_97, xg_100, xg_122, xg_126, xg_128, xg_1000, xg_9999, xe_1, xe_2, xe_3, xe_4, xe_5, xe_6, xe_7, xe_8, xe_9, xe_10, xe_12, xe_20, xe_30, xe_32, xe_40, xe_41, xe_42, xe_48, xe_57, xe_59, xe_64, xe_97, xe_100, xe_122, xe_126, xe_128, xe_1000, xe_9999, true_implies, false_implies, not_true_eq_false, not_false_eq_true, and_true, true_and, forall_const, imp_self, lc_eq, implies_true, vin, Bool.true_eq_false, Bool.false_eq_true, false_and, and_false, or_false, false_or, or_true, true_or]
      exact hQ _ _ ⟨rfl, r, rfl, hr⟩
    · rw [b3_0, eq_comm, pB_f]
      rintro ⟨h1, _⟩
      exact absurd h1 (Nat.not_lt_zero _)
  obtain ⟨mi', ml', h1, rfl, r, rfl, h2⟩ := key
  exact ⟨r, h1, h2⟩
/-- the ballots are ready: p passes -/
def bP (ti : cM1) (tl : cM2) (p : Nat → Prop) (mi : cM1) (ml : cM2) : Prop := cP ti tl mi ml ∧ mi 36 2 = nI (nV ti tl) ∧ ∀ g, g < nV ti tl → b3 (mi 36 3) g = pB (p g)
theorem s_takenWith (O : okT ti) {p : Nat → Prop} (B : bP ti tl p mi ml) {t g : Nat} (ht : t < 2 ^ 6) (hg : g < nV ti tl) : ∃ ml', cS ro (d + 6) 5 [.ref 36, .int (nI t), .int ((1 : Int32) <<< (nI g &&& 31))] mi ml (some (.int (nI (tw ti tl p t g)))) mi ml' ∧ bP ti tl p mi ml' ∧ ml' 36 = ml 36 := by
  have hV := nV_le ti tl
  have ht2 : t < 2 ^ 30 := by omega
  by_cases c : p g
  · have hb : b3 (mi 36 3) g = true := by rw [B.2.2 g hg]; exact pB_iff.2 c
    obtain ⟨ml', s1, C1, hk⟩ := s_goes (ro := ro) (d := d) O B.1 (s := t ||| 2 ^ g) (or_lt ht2 (by omega))
    refine ⟨ml', ab_sem_q rfl rfl (fun Q hQ => vc_X0_takenWith_0 _ _ mi ml ?_), ⟨C1, B.2⟩, hk 36 (by decide) (by decide) (by decide)⟩
    rw [or_bit ht2 (by omega)]
    simp (disch := omega) only [bit3_0, hb, nI_ltI, nI_eq, nI_clamp, nI_1, xl_0, xg_0, xe_0, xe_m1, nI_0, xl_1, xl_2, xl_3, xl_4, xl_5, xl_6, xl_7, xl_8, xl_9, xl_10, xl_12, xl_20, xl_30, xl_32, xl_40, xl_41, xl_42, xl_48, xl_57, xl_59, xl_64, xl_97, xl_100, xl_122, xl_126, xl_128, xl_1000, xl_9999, xg_1, xg_2, xg_3, xg_4, xg_5, xg_6, xg_7, xg_8, xg_9, xg_10, xg_12, xg_20, xg_30, xg_32, xg_40, xg_41, xg_42, xg_48, xg_57, xg_59, xg_64, xg_97, xg_100, xg_122, xg_126, xg_128, xg_1000, xg_9999, xe_1, xe_2, xe_3, xe_4, xe_5, xe_6, xe_7, xe_8, xe_9, xe_10, xe_12, xe_20, xe_30, xe_32, xe_40, xe_41, xe_42, xe_48, xe_57, xe_59, xe_64, xe_97, xe_100, xe_122, xe_126, xe_128, xe_1000, xe_9999, true_implies, false_implies, not_true_eq_false, not_false_eq_true, and_true, true_and, forall_const, imp_self, lc_eq, implies_true, vin, Bool.true_eq_false, Bool.false_eq_true, false_and, and_false, or_false, false_or, or_true, true_or]
    refine ⟨_, _, _, s1, ?_⟩
    rw [pI_e0]
    unfold tw at hQ
    refine ⟨fun c2 => ?_, fun c2 => ?_⟩
    · rw [if_neg (fun h => c2 h.2)] at hQ; exact hQ
    · rw [if_pos ⟨c, Classical.not_not.1 c2⟩] at hQ; exact hQ
  · have hb : b3 (mi 36 3) g = false := by rw [B.2.2 g hg]; exact pB_f.2 c
    refine ⟨ml, ab_sem_q rfl rfl (fun Q hQ => vc_X0_takenWith_0 _ _ mi ml ?_), B, rfl⟩
    simp (disch := omega) only [bit3_0, hb, nI_ltI, nI_eq, nI_clamp, nI_1, xl_0, xg_0, xe_0, xe_m1, nI_0, xl_1, xl_2, xl_3, xl_4, xl_5, xl_6, xl_7, xl_8, xl_9, xl_10, xl_12, xl_20, xl_30, xl_32, xl_40, xl_41, xl_42, xl_48, xl_57, xl_59, xl_64, xl_97, xl_100, xl_122, xl_126, xl_128, xl_1000, xl_9999, xg_1, xg_2, xg_3, xg_4, xg_5, xg_6, xg_7, xg_8, xg_9, xg_10, xg_12, xg_20, xg_30, xg_32, xg_40, xg_41, xg_42, xg_48, xg_57, xg_59, xg_64, xg_97, xg_100, xg_122, xg_126, xg_128, xg_1000, xg_9999, xe_1, xe_2, xe_3, xe_4, xe_5, xe_6, xe_7, xe_8, xe_9, xe_10, xe_12, xe_20, xe_30, xe_32, xe_40, xe_41, xe_42, xe_48, xe_57, xe_59, xe_64, xe_97, xe_100, xe_122, xe_126, xe_128, xe_1000, xe_9999, true_implies, false_implies, not_true_eq_false, not_false_eq_true, and_true, true_and, forall_const, imp_self, lc_eq, implies_true, vin, Bool.true_eq_false, Bool.false_eq_true, false_and, and_false, or_false, false_or, or_true, true_or]
    unfold tw at hQ
    rw [if_neg (fun h => c h.1)] at hQ
    exact hQ
theorem s_inPlain (O : okT ti) (C : cP ti tl mi ml) (x y : Int32) : ∃ mi' ml', cS ro (d + 7) 3 [.ref 36, .int x, .int y] mi ml (some (.int (nI (pln ti tl (fun g => 4 ≤ vt ti x y g) (nV ti tl))))) mi' ml' ∧ cP ti tl mi' ml' ∧ mi' 36 2 = nI (nV ti tl) := by
  have hV := nV_le ti tl
  obtain ⟨r, s1, h1⟩ := s_ready (ro := ro) (d := d + 5) C O x y
  refine ab_ex_q rfl rfl (fun Q hQ => vc_X0_inPlainOrder_0 _ _ mi ml ⟨_, _, s1, ?_⟩)
  have B0 : bP ti tl (fun g => 4 ≤ vt ti x y g) (ab_ui (ab_ui mi 36 2 (nI (nV ti tl))) 36 3 r) ml := ⟨(C.ui _ rfl).ui _ rfl, by simp [ui_app], fun g hg => by
    have e3 : ab_ui (ab_ui mi 36 2 (nI (nV ti tl))) 36 3 r 36 3 = r := by simp [ui_app]
    rw [e3, h1]
    exact pB_congr ⟨fun h => h.2, fun h => ⟨hg, h⟩⟩⟩
  generalize ab_ui (ab_ui mi 36 2 (nI (nV ti tl))) 36 3 r = mi1 at B0 ⊢
  refine up0 (n := nV ti tl) (F := fun i => ∀ ml, bP ti tl (fun g => 4 ≤ vt ti x y g) mi1 ml → W_X0_inPlainOrder_11 (cs ro (d + 6)) ro Q x y (nI (pln ti tl (fun g => 4 ≤ vt ti x y g) i)) (nI i) mi1 ml) (fun i hi ih ml B => ?_) (fun ml B => ?_) ml B0
  · refine vc_X0_inPlainOrder_11 _ _ _ _ mi1 ml ?_
    obtain ⟨ml', s2, B1, _⟩ := s_takenWith (ro := ro) (d := d) O B (pln_lt i (by omega)) hi
    simp (disch := omega) only [B.2.1, hi, nI_ltI, nI_eq, nI_clamp, nI_1, xl_0, xg_0, xe_0, xe_m1, nI_0, xl_1, xl_2, xl_3, xl_4, xl_5, xl_6, xl_7, xl_8, xl_9, xl_10, xl_12, xl_20, xl_30, xl_32, xl_40, xl_41, xl_42, xl_48, xl_57, xl_59, xl_64, xl_97, xl_100, xl_122, xl_126, xl_128, xl_1000, xl_9999, xg_1, xg_2, xg_3, xg_4, xg_5, xg_6, xg_7, xg_8, xg_9, xg_10, xg_12, xg_20, xg_30, xg_32, xg_40, xg_41, xg_42, xg_48, xg_57, xg_59, xg_64, xg_97, xg_100, xg_122, xg_126, xg_128, xg_1000, xg_9999, xe_1, xe_2, xe_3, xe_4, xe_5, xe_6, xe_7, xe_8, xe_9, xe_10, xe_12, xe_20, xe_30, xe_32, xe_40, xe_41, xe_42, xe_48, xe_57, xe_59, xe_64, xe_97, xe_100, xe_122, xe_126, xe_128, xe_1000, xe_9999, true_implies, false_implies, not_true_eq_false, not_false_eq_true, and_true, true_and, forall_const, imp_self, lc_eq, implies_true, vin, Bool.true_eq_false, Bool.false_eq_true, false_and, and_false, or_false, false_or, or_true, true_or]
    exact ⟨_, _, _, s2, ih _ B1⟩
  · refine vc_X0_inPlainOrder_11 _ _ _ _ mi1 ml ?_
    simp (disch := omega) only [B.2.1, Nat.lt_irrefl, nI_ltI, nI_eq, nI_clamp, nI_1, xl_0, xg_0, xe_0, xe_m1, nI_0, xl_1, xl_2, xl_3, xl_4, xl_5, xl_6, xl_7, xl_8, xl_9, xl_10, xl_12, xl_20, xl_30, xl_32, xl_40, xl_41, xl_42, xl_48, xl_57, xl_59, xl_64, xl_97, xl_100, xl_122, xl_126, xl_128, xl_1000, xl_9999, xg_1, xg_2, xg_3, xg_4, xg_5, xg_6, xg_7, xg_8, xg_9, xg_10, xg_12, xg_20, xg_30, xg_32, xg_40, xg_41, xg_42, xg_48, xg_57, xg_59, xg_64, xg_97, xg_100, xg_122, xg_126, xg_128, xg_1000, xg_9999, xe_1, xe_2, xe_3, xe_4, xe_5, xe_6, xe_7, xe_8, xe_9, xe_10, xe_12, xe_20, xe_30, xe_32, xe_40, xe_41, xe_42, xe_48, xe_57, xe_59, xe_64, xe_97, xe_100, xe_122, xe_126, xe_128, xe_1000, xe_9999, true_implies, false_implies, not_true_eq_false, not_false_eq_true, and_true, true_and, forall_const, imp_self, lc_eq, implies_true, vin, Bool.true_eq_false, Bool.false_eq_true, false_and, and_false, or_false, false_or, or_true, true_or]
    exact hQ _ _ ⟨B.1, B.2.1⟩
/-- what is noted: sure, maybe, results, most, fewest, best order -/
abbrev nSt : Type := Int32 × Int32 × Int64 × Int32 × Int32 × Int32
def lik (x : Int32) (t : Nat) : Int32 := nI (pcn (b3 (nI t &&& x)) 32)
def cnote (x : Int32) (z : nSt) (a : Nat × Nat) : nSt :=
  (z.1 &&& nI a.1, z.2.1 ||| nI a.1, z.2.2.1 ||| ((1 : Int64) <<< ((nI a.1).toInt64 &&& 63)), (if z.2.2.2.1 < lik x a.1 then lik x a.1 else z.2.2.2.1), (if lik x a.1 < z.2.2.2.2.1 then lik x a.1 else z.2.2.2.2.1), (if z.2.2.2.1 < lik x a.1 then nI a.2 else z.2.2.2.2.2))
def nOK (x : Int32) (z : nSt) (mi : cM1) (ml : cM2) : Prop := mi 36 7 = x ∧ mi 36 4 = z.1 ∧ mi 36 5 = z.2.1 ∧ ml 36 6 = z.2.2.1 ∧ mi 36 8 = z.2.2.2.1 ∧ mi 36 9 = z.2.2.2.2.1 ∧ mi 36 10 = z.2.2.2.2.2
theorem bP.ui {p : Nat → Prop} (B : bP ti tl p mi ml) {j : Nat} (v : Int32) (h2 : ¬ j = 2) (h3 : ¬ j = 3) : bP ti tl p (ab_ui mi 36 j v) ml := by
  refine ⟨B.1.ui _ rfl, ?_, fun g hg => ?_⟩
  · rw [ui_app, if_pos rfl, if_neg (fun h => h2 h.symm)]; exact B.2.1
  · rw [ui_app, if_pos rfl, if_neg (fun h => h3 h.symm)]; exact B.2.2 g hg
theorem bP.ul {p : Nat → Prop} (B : bP ti tl p mi ml) (v : Int64) : bP ti tl p mi (ab_ul ml 36 6 v) := ⟨B.1.ul _ rfl, B.2.1, B.2.2⟩
theorem s_note {p : Nat → Prop} (B : bP ti tl p mi ml) {x : Int32} {z : nSt} (N : nOK x z mi ml) (a : Nat × Nat) : ∃ mi' ml', cS ro (d + 2) 8 [.ref 36, .int (nI a.1), .int (nI a.2)] mi ml none mi' ml' ∧ bP ti tl p mi' ml' ∧ nOK x (cnote x z a) mi' ml' := by
  obtain ⟨n7, n4, n5, n6, n8, n9, n10⟩ := N
  refine ab_ex_q rfl rfl (fun Q hQ => vc_X0_note_0 _ _ mi ml ⟨_, _, _, s_bc3 _, ?_⟩)
  rw [n7, n4, n5, n6]
  have e8 : ab_ui (ab_ui mi 36 4 (z.1 &&& nI a.1)) 36 5 (z.2.1 ||| nI a.1) 36 8 = z.2.2.2.1 := by rw [← n8]; simp [ui_app]
  have e9 : ab_ui (ab_ui mi 36 4 (z.1 &&& nI a.1)) 36 5 (z.2.1 ||| nI a.1) 36 9 = z.2.2.2.2.1 := by rw [← n9]; simp [ui_app]
  have e9' : ∀ v w, (ab_ui (ab_ui (ab_ui (ab_ui mi 36 4 (z.1 &&& nI a.1)) 36 5 (z.2.1 ||| nI a.1)) 36 8 v) 36 10 w) 36 9 = z.2.2.2.2.1 := fun v w => by rw [← n9]; simp [ui_app]
  have el : nI (pcn (b3 (nI a.1 &&& x)) 32) = lik x a.1 := rfl
  rw [e8, e9, el]
  refine ⟨fun c => ?_, fun c => ?_⟩
  · refine hQ _ _ ⟨((((((B.ui _ (by decide) (by decide)).ui _ (by decide) (by decide)).ui _ (by decide) (by decide)).ui _ (by decide) (by decide)).ui _ (by decide) (by decide))).ul _, ?_⟩
    unfold cnote nOK
    simp only [if_pos c]
    refine ⟨?_, ?_, ?_, ?_, ?_, ?_, ?_⟩ <;> simp [ui_app, ul_app, n7]
  · refine hQ _ _ ⟨((((B.ui _ (by decide) (by decide)).ui _ (by decide) (by decide)).ui _ (by decide) (by decide))).ul _, ?_⟩
    unfold cnote nOK
    simp only [if_neg c]
    refine ⟨?_, ?_, ?_, ?_, ?_, ?_, ?_⟩ <;> simp [ui_app, ul_app, n7, n8, n10]
set_option maxHeartbeats 1000000 in
theorem s_putNext (O : okT ti) {p : Nat → Prop} {x : Int32} : ∀ (left put t c : Nat), left ≤ 6 → put < 2 ^ 6 → t < 2 ^ 6 → ∀ (mi : cM1) (ml : cM2) (z : nSt), bP ti tl p mi ml → nOK x z mi ml →
    ∃ mi' ml', cS ro (d + 7 + left) 7 [.ref 36, .int (nI left), .int (nI put), .int (nI t), .int (nI c)] mi ml none mi' ml' ∧ bP ti tl p mi' ml' ∧ nOK x ((ordl ti tl p left put t c).foldl (cnote x) z) mi' ml' := by
  have hV := nV_le ti tl
  intro left
  induction left with
  | zero =>
    intro put t c _ hput ht mi ml z B N
    refine ab_ex_q rfl rfl (fun Q hQ => vc_X0_putNext_0 _ _ _ _ mi ml ?_)
    obtain ⟨mi', ml', s1, B1, N1⟩ := s_note (ro := ro) (d := d + 4) B N (t, c)
    have e : ((0 : Int32) < nI 0) = False := eq_false (by decide)
    simp only [e, false_implies, true_and, not_false_eq_true, true_implies]
    exact ⟨_, _, s1, hQ _ _ ⟨B1, N1⟩⟩
  | succ left ih =>
    intro put t c hl hput ht mi ml z B N
    refine ab_ex_q rfl rfl (fun Q hQ => vc_X0_putNext_0 _ _ _ _ mi ml ?_)
    simp (disch := omega) only [Nat.zero_lt_succ, nI_ltI, nI_eq, nI_clamp, nI_1, xl_0, xg_0, xe_0, xe_m1, nI_0, xl_1, xl_2, xl_3, xl_4, xl_5, xl_6, xl_7, xl_8, xl_9, xl_10, xl_12, xl_20, xl_30, xl_32, xl_40, xl_41, xl_42, xl_48, xl_57, xl_59, xl_64, xl_97, xl_100, xl_122, xl_126, xl_128, xl_1000, xl_9999, xg_1, xg_2, xg_3, xg_4, xg_5, xg_6, xg_7, xg_8, xg_9, xg_10, xg_12, xg_20, xg_30, xg_32, xg_40, xg_41, xg_42, xg_48, xg_57, xg_59, xg_64, xg_97, xg_100, xg_122, xg_126, xg_128, xg_1000, xg_9999, xe_1, xe_2, xe_3, xe_4, xe_5, xe_6, xe_7, xe_8, xe_9, xe_10, xe_12, xe_20, xe_30, xe_32, xe_40, xe_41, xe_42, xe_48, xe_57, xe_59, xe_64, xe_97, xe_100, xe_122, xe_126, xe_128, xe_1000, xe_9999, true_implies, false_implies, not_true_eq_false, not_false_eq_true, and_true, true_and, forall_const, imp_self, lc_eq, implies_true, vin, Bool.true_eq_false, Bool.false_eq_true, false_and, and_false, or_false, false_or, or_true, true_or]
    have e : ordl ti tl p (left + 1) put t c = (List.range (nV ti tl)).flatMap (fun g => if put.testBit g = true then [] else ordl ti tl p left (put ||| 2 ^ g) (tw ti tl p t g) (8 * c + g)) := rfl
    rw [e] at hQ
    refine up0 (n := nV ti tl) (F := fun i => ∀ mi ml z', bP ti tl p mi ml → nOK x z' mi ml → z' = ((List.range i).flatMap (fun g => if put.testBit g = true then [] else ordl ti tl p left (put ||| 2 ^ g) (tw ti tl p t g) (8 * c + g))).foldl (cnote x) z → W_X0_putNext_15 (cs ro (d + 7 + left)) ro Q (nI (left + 1)) (nI put) (nI t) (nI c) (nI i) mi ml) (fun i hi ih2 mi ml z' B N hz => ?_) (fun mi ml z' B N hz => ?_) mi ml z B N rfl
    · refine vc_X0_putNext_15 _ _ _ _ _ mi ml ?_
      have hs : (List.range (i + 1)).flatMap (fun g => if put.testBit g = true then [] else ordl ti tl p left (put ||| 2 ^ g) (tw ti tl p t g) (8 * c + g)) = (List.range i).flatMap (fun g => if put.testBit g = true then [] else ordl ti tl p left (put ||| 2 ^ g) (tw ti tl p t g) (8 * c + g)) ++ (if put.testBit i = true then [] else ordl ti tl p left (put ||| 2 ^ i) (tw ti tl p t i) (8 * c + i)) := by
        rw [List.range_succ, List.flatMap_append]; simp
      rw [bit3_0 _ (show i < 32 by omega), b3_nI (by omega), nI_pred, or_bit (by omega) (by omega)]
      simp (disch := omega) only [B.2.1, hi, nI_ltI, nI_eq, nI_clamp, nI_1, xl_0, xg_0, xe_0, xe_m1, nI_0, xl_1, xl_2, xl_3, xl_4, xl_5, xl_6, xl_7, xl_8, xl_9, xl_10, xl_12, xl_20, xl_30, xl_32, xl_40, xl_41, xl_42, xl_48, xl_57, xl_59, xl_64, xl_97, xl_100, xl_122, xl_126, xl_128, xl_1000, xl_9999, xg_1, xg_2, xg_3, xg_4, xg_5, xg_6, xg_7, xg_8, xg_9, xg_10, xg_12, xg_20, xg_30, xg_32, xg_40, xg_41, xg_42, xg_48, xg_57, xg_59, xg_64, xg_97, xg_100, xg_122, xg_126, xg_128, xg_1000, xg_9999, xe_1, xe_2, xe_3, xe_4, xe_5, xe_6, xe_7, xe_8, xe_9, xe_10, xe_12, xe_20, xe_30, xe_32, xe_40, xe_41, xe_42, xe_48, xe_57, xe_59, xe_64, xe_97, xe_100, xe_122, xe_126, xe_128, xe_1000, xe_9999, true_implies, false_implies, not_true_eq_false, not_false_eq_true, and_true, true_and, forall_const, imp_self, lc_eq, implies_true, vin, Bool.true_eq_false, Bool.false_eq_true, false_and, and_false, or_false, false_or, or_true, true_or]
      refine ⟨fun c1 => ?_, fun c1 => ?_⟩
      · obtain ⟨ml1, s1, B1, e1⟩ := s_takenWith (ro := ro) (d := d + 1 + left) O B ht hi
        have N1 : nOK x z' mi ml1 := ⟨N.1, N.2.1, N.2.2.1, by rw [e1]; exact N.2.2.2.1, N.2.2.2.2⟩
        obtain ⟨mi2, ml2, s2, B2, N2⟩ := ih (put ||| 2 ^ i) (tw ti tl p t i) (8 * c + i) (by omega) (or_lt hput (by omega)) (tw_lt ht (by omega)) mi ml1 z' B1 N1
        have ec : nI c * 8 + nI i = nI (8 * c + i) := by
          have : nI c * 8 = nI (c * 8) := (Int32.ofNat_mul c 8).symm
          rw [this, nI_add, Nat.mul_comm]
        rw [ec]
        rw [show d + 1 + left + 6 = d + 7 + left by omega] at s1
        refine ⟨_, _, _, s1, _, _, s2, ih2 _ _ _ B2 N2 ?_⟩
        rw [hs, c1, List.foldl_append, ← hz]
        rfl
      · refine ih2 _ _ _ B N ?_
        have c2 : put.testBit i = true := by simpa using c1
        rw [hs, c2, hz]
        simp
    · refine vc_X0_putNext_15 _ _ _ _ _ mi ml ?_
      simp (disch := omega) only [B.2.1, Nat.lt_irrefl, nI_ltI, nI_eq, nI_clamp, nI_1, xl_0, xg_0, xe_0, xe_m1, nI_0, xl_1, xl_2, xl_3, xl_4, xl_5, xl_6, xl_7, xl_8, xl_9, xl_10, xl_12, xl_20, xl_30, xl_32, xl_40, xl_41, xl_42, xl_48, xl_57, xl_59, xl_64, xl_97, xl_100, xl_122, xl_126, xl_128, xl_1000, xl_9999, xg_1, xg_2, xg_3, xg_4, xg_5, xg_6, xg_7, xg_8, xg_9, xg_10, xg_12, xg_20, xg_30, xg_32, xg_40, xg_41, xg_42, xg_48, xg_57, xg_59, xg_64, xg_97, xg_100, xg_122, xg_126, xg_128, xg_1000, xg_9999, xe_1, xe_2, xe_3, xe_4, xe_5, xe_6, xe_7, xe_8, xe_9, xe_10, xe_12, xe_20, xe_30, xe_32, xe_40, xe_41, xe_42, xe_48, xe_57, xe_59, xe_64, xe_97, xe_100, xe_122, xe_126, xe_128, xe_1000, xe_9999, true_implies, false_implies, not_true_eq_false, not_false_eq_true, and_true, true_and, forall_const, imp_self, lc_eq, implies_true, vin, Bool.true_eq_false, Bool.false_eq_true, false_and, and_false, or_false, false_or, or_true, true_or]
      rw [hz] at N
      exact hQ _ _ ⟨B, N⟩
noncomputable def passP (ti : cM1) (g : Nat) : Prop := 4 ≤ vt ti (-1) 0 g
theorem s_tryOrders (O : okT ti) (C : cP ti tl mi ml) (x : Int32) : ∃ mi' ml', cS ro (d + 14) 6 [.ref 36, .int x] mi ml none mi' ml' ∧ cP ti tl mi' ml' ∧ nOK x ((ordl ti tl (passP ti) (nV ti tl) 0 0 0).foldl (cnote x) (((1 : Int32) <<< (nI (nV ti tl) &&& 31)) - 1, 0, 0, -1, 6, 0)) mi' ml' := by
  have hV := nV_le ti tl
  obtain ⟨r, s1, h1⟩ := s_ready (ro := ro) (d := d + 12) C O (-1) 0
  refine ab_ex_q rfl rfl (fun Q hQ => vc_X0_tryOrders_0 _ mi ml ⟨_, _, s1, ?_⟩)
  have B0 : bP ti tl (passP ti) (ab_ui (ab_ui mi 36 2 (nI (nV ti tl))) 36 3 r) ml := ⟨(C.ui _ rfl).ui _ rfl, by simp [ui_app], fun g hg => by
    have e3 : ab_ui (ab_ui mi 36 2 (nI (nV ti tl))) 36 3 r 36 3 = r := by simp [ui_app]
    rw [e3, h1]
    exact pB_congr ⟨fun h => h.2, fun h => ⟨hg, h⟩⟩⟩
  generalize ab_ui (ab_ui mi 36 2 (nI (nV ti tl))) 36 3 r = mi1 at B0 ⊢
  rw [B0.2.1]
  obtain ⟨mi', ml', s2, B1, N1⟩ := s_putNext (ro := ro) (d := d + 6 - nV ti tl) (x := x) (z := (((1 : Int32) <<< (nI (nV ti tl) &&& 31)) - 1, 0, 0, -1, 6, 0)) O (nV ti tl) 0 0 0 hV.1 (by decide) (by decide) _ _ (((((((B0.ui x (j := 7) (by decide) (by decide)).ui (((1 : Int32) <<< (nI (nV ti tl) &&& 31)) - 1) (j := 4) (by decide) (by decide)).ui 0 (j := 5) (by decide) (by decide)).ui (-1) (j := 8) (by decide) (by decide)).ui 6 (j := 9) (by decide) (by decide)).ui 0 (j := 10) (by decide) (by decide)).ul 0) ⟨by simp [ui_app], by simp [ui_app], by simp [ui_app], by simp [ul_app], by simp [ui_app], by simp [ui_app], by simp [ui_app]⟩
  rw [show d + 6 - nV ti tl + 7 + nV ti tl = d + 13 by omega] at s2
  exact ⟨_, _, s2, hQ _ _ ⟨B1.1, N1⟩⟩
/-- what the plain order takes, if the house h votes otherwise on g -/
noncomputable def plnF (ti : cM1) (tl : cM2) (h g : Nat) : Nat := pln ti tl (fun i => 4 ≤ vt ti (nI h) ((1 : Int32) <<< (nI g &&& 31)) i) (nV ti tl)
noncomputable def gaiP (ti : cM1) (tl : cM2) (h g : Nat) : Prop := pcn (b3 (nI (pln ti tl (passP ti) (nV ti tl)) &&& ti 37 h)) 32 < pcn (b3 (nI (plnF ti tl h g) &&& ti 37 h)) 32
theorem s_firstGain (O : okT ti) (C : cP ti tl mi ml) {h : Nat} (hh : h < 7) : ∃ mi' ml', cS ro (d + 8) 9 [.ref 36, .int (nI h)] mi ml (some (.int (fI (gaiP ti tl h) (nV ti tl)))) mi' ml' ∧ cP ti tl mi' ml' := by
  have hV := nV_le ti tl
  obtain ⟨mi1, ml1, s1, C1, e1⟩ := s_inPlain (ro := ro) (d := d) O C (-1) 0
  refine ab_ex_q rfl rfl (fun Q hQ => vc_X0_firstGain_0 _ mi ml ⟨_, _, _, s1, in_of hh (by decide), _, _, _, s_bc3 _, ?_⟩)
  rw [e1, C1.1.e37, nI_clamp (by omega)]
  have p0 := pcn_le (b3 (nI (pln ti tl (passP ti) (nV ti tl)) &&& ti 37 h)) 32
  refine up0 (n := nV ti tl) (F := fun i => ∀ mi ml, cP ti tl mi ml → (∀ j, j < i → ¬ gaiP ti tl h j) → W_X0_firstGain_25 (cs ro (d + 7)) ro Q (nI h) (nI (pcn (b3 (nI (pln ti tl (passP ti) (nV ti tl)) &&& ti 37 h)) 32)) (nI (nV ti tl)) (nI i) mi ml) (fun i hi ih mi ml C hno => ?_) (fun mi ml C hno => ?_) mi1 ml1 C1 (fun j hj => absurd hj (Nat.not_lt_zero j))
  · refine vc_X0_firstGain_25 _ _ _ _ mi ml ?_
    obtain ⟨mi2, ml2, s2, C2, _⟩ := s_inPlain (ro := ro) (d := d) O C (nI h) ((1 : Int32) <<< (nI i &&& 31))
    simp (disch := omega) only [hi, nI_ltI, nI_eq, nI_clamp, nI_1, xl_0, xg_0, xe_0, xe_m1, nI_0, xl_1, xl_2, xl_3, xl_4, xl_5, xl_6, xl_7, xl_8, xl_9, xl_10, xl_12, xl_20, xl_30, xl_32, xl_40, xl_41, xl_42, xl_48, xl_57, xl_59, xl_64, xl_97, xl_100, xl_122, xl_126, xl_128, xl_1000, xl_9999, xg_1, xg_2, xg_3, xg_4, xg_5, xg_6, xg_7, xg_8, xg_9, xg_10, xg_12, xg_20, xg_30, xg_32, xg_40, xg_41, xg_42, xg_48, xg_57, xg_59, xg_64, xg_97, xg_100, xg_122, xg_126, xg_128, xg_1000, xg_9999, xe_1, xe_2, xe_3, xe_4, xe_5, xe_6, xe_7, xe_8, xe_9, xe_10, xe_12, xe_20, xe_30, xe_32, xe_40, xe_41, xe_42, xe_48, xe_57, xe_59, xe_64, xe_97, xe_100, xe_122, xe_126, xe_128, xe_1000, xe_9999, true_implies, false_implies, not_true_eq_false, not_false_eq_true, and_true, true_and, forall_const, imp_self, lc_eq, implies_true, vin, Bool.true_eq_false, Bool.false_eq_true, false_and, and_false, or_false, false_or, or_true, true_or]
    refine ⟨_, _, _, s2, _, _, _, s_bc3 _, ?_⟩
    have p1 := pcn_le (b3 (nI (plnF ti tl h i) &&& ti 37 h)) 32
    have ep : nI (pln ti tl (fun g => 4 ≤ vt ti (nI h) ((1 : Int32) <<< (nI i &&& 31)) g) (nV ti tl)) = nI (plnF ti tl h i) := rfl
    rw [C2.1.e37, ep, nI_ltI (by omega) (by omega)]
    refine ⟨fun c => ?_, fun c => ih _ _ C2 (fun j hj => ?_)⟩
    · rw [fI_hit (P := gaiP ti tl h) c hno hi (by omega)] at hQ
      exact hQ _ _ C2
    · rcases Nat.lt_or_eq_of_le (Nat.le_of_lt_succ hj) with q | q
      · exact hno j q
      · rw [q]; exact c
  · refine vc_X0_firstGain_25 _ _ _ _ mi ml ?_
    simp (disch := omega) only [Nat.lt_irrefl, nI_ltI, nI_eq, nI_clamp, nI_1, xl_0, xg_0, xe_0, xe_m1, nI_0, xl_1, xl_2, xl_3, xl_4, xl_5, xl_6, xl_7, xl_8, xl_9, xl_10, xl_12, xl_20, xl_30, xl_32, xl_40, xl_41, xl_42, xl_48, xl_57, xl_59, xl_64, xl_97, xl_100, xl_122, xl_126, xl_128, xl_1000, xl_9999, xg_1, xg_2, xg_3, xg_4, xg_5, xg_6, xg_7, xg_8, xg_9, xg_10, xg_12, xg_20, xg_30, xg_32, xg_40, xg_41, xg_42, xg_48, xg_57, xg_59, xg_64, xg_97, xg_100, xg_122, xg_126, xg_128, xg_1000, xg_9999, xe_1, xe_2, xe_3, xe_4, xe_5, xe_6, xe_7, xe_8, xe_9, xe_10, xe_12, xe_20, xe_30, xe_32, xe_40, xe_41, xe_42, xe_48, xe_57, xe_59, xe_64, xe_97, xe_100, xe_122, xe_126, xe_128, xe_1000, xe_9999, true_implies, false_implies, not_true_eq_false, not_false_eq_true, and_true, true_and, forall_const, imp_self, lc_eq, implies_true, vin, Bool.true_eq_false, Bool.false_eq_true, false_and, and_false, or_false, false_or, or_true, true_or]
    rw [fI_none hno] at hQ
    exact hQ _ _ C
end BA
