/-! The reader's small steps, the class's side. -/
def rdA (k j : Nat) : Bool := tkI k j || (Nat.beq k 5 && Nat.beq j 1)
def rdB (k j : Nat) : Bool := Nat.beq k 5 && (Nat.beq j 2 || Nat.beq j 3)
/-- the reader's state: z = (fault, place) -/
def RS (T : tSt) (z : Nat × Nat) (mi : cM1) : Prop := cT T mi ∧ TS T z.2 mi ∧ z.2 ≤ T.1 ∧ mi 5 1 = nI z.1 ∧ z.1 < 2 ^ 20
def flz (T : tSt) (k : Nat) (z : Nat × Nat) : Nat × Nat := if z.1 = 0 then (k + 16 * tS T z.2, z.2) else z
def stz (T : tSt) (z : Nat × Nat) : Nat × Nat := (z.1, tE T z.2)
def sgz (T : tSt) (k : Nat) (z : Nat × Nat) : Nat × Nat := if z.1 = 0 ∧ tK T z.2 = k then stz T z else flz T 1 z
noncomputable def wdz (T : tSt) (j : Nat) (z : Nat × Nat) : Nat × Nat := if z.1 = 0 ∧ pB (wdP T j z.2) = true then stz T z else flz T 1 z
def vlu (T : tSt) (s : Nat) : Nat → Nat
  | 0 => 0
  | i + 1 => vlu T s i * 10 + (T.2 (s + i) - 48)
def nmv (T : tSt) (p : Nat) : Nat := vlu T (tS T p) (tE T p - tS T p)
def nmz (T : tSt) (l : Nat) (z : Nat × Nat) : Nat × Nat := if z.1 = 0 ∧ tK T z.2 = 3 then (if nmv T z.2 < l then stz T z else flz T 4 z) else flz T 1 z
def nmr (T : tSt) (l : Nat) (z : Nat × Nat) : Nat := if z.1 = 0 ∧ tK T z.2 = 3 ∧ nmv T z.2 < l then nmv T z.2 else 0
/-- the atom at p, or 7 -/
def atP (T : tSt) (p : Nat) : Nat := if tK T p = 2 ∧ tE T p - tS T p = 1 ∧ T.2 (tS T p) < 104 then T.2 (tS T p) - 97 else 7
def aI (a : Nat) : Int32 := if a < 7 then nI a else -1
section RS
variable {ro : ab_E} {d : Nat} {mi : cM1} {ml : cM2} {T : tSt} {z : Nat × Nat}
theorem tK_7 (T : tSt) (p : Nat) : tK T p ≤ 7 := by
  have := kd_7 T (tS T p)
  unfold tK; split <;> omega
theorem tE_ge (Z : tOK T) {p : Nat} (h : p ≤ T.1) : tS T p ≤ tE T p := by
  by_cases q : tS T p < T.1
  · exact Nat.le_of_lt (tE_gt Z q)
  · have k0 : kd T (tS T p) = 0 := kd_0.2 (by omega)
    have := tS_le T h
    unfold tE
    rw [k0, if_neg (by omega), if_neg q]; omega
theorem cT.fr {mi' : cM1} {ml ml' : cM2} (C : cT T mi) (F : fr rdA rdB mi ml mi' ml') : cT T mi' := C.of (F.1 2 2 rfl) (F.c (fun j => rfl)) (F.c (fun j => rfl))
theorem s_fail {k : Nat} {v : Int32} (Z : tOK T) (hv : v = nI k) (hk : k < 16) (R : RS T z mi) : ∃ mi', cS ro (d + 1) 67 [.ref 5, .int v] mi ml none mi' ml ∧ RS T (flz T k z) mi' ∧ fr rdA rdB mi ml mi' ml := by
  obtain ⟨C, S, hp, e5, hz⟩ := R
  have hs := tS_le T hp
  have hn := Z.1
  have key : ∃ mi' ml', cS ro (d + 1) 67 [.ref 5, .int v] mi ml none mi' ml' ∧ (ml' = ml ∧ RS T (flz T k z) mi' ∧ fr rdA rdB mi ml mi' ml) := by
    refine ab_ex_q rfl rfl (fun Q hQ => vc_X7_fail_0 v mi ml ?_)
    rw [e5, xe_0 (by omega)]
    refine ⟨fun c => hQ _ _ ⟨rfl, ?_, fr.rf.ui _ rfl⟩, fun c => hQ _ _ ⟨rfl, ?_, fr.rf⟩⟩
    · unfold flz; rw [if_pos c]
      refine ⟨C.of (by simp [ui_app]) (by funext j; simp [ui_app]) (by funext j; simp [ui_app]), ⟨?_, ?_, ?_⟩, hp, ?_, ?_⟩
      · rw [ui_app, if_neg (by decide)]; exact S.1
      · rw [ui_app, if_neg (by decide)]; exact S.2.1
      · rw [ui_app, if_neg (by decide)]; exact S.2.2
      · rw [ui_app, if_pos rfl, if_pos rfl, S.1, hv]
        show nI k + nI 16 * nI (tS T z.2) = _
        rw [nI_mul, nI_add]
      · show k + 16 * tS T z.2 < 2 ^ 20
        omega
    · unfold flz; rw [if_neg c]; exact ⟨C, S, hp, e5, hz⟩
  obtain ⟨mi', ml', h1, rfl, h2⟩ := key
  exact ⟨mi', h1, h2⟩
theorem s_st (Z : tOK T) (R : RS T z mi) : ∃ mi', cS ro (d + 1) 85 [.ref 2] mi ml none mi' ml ∧ RS T (stz T z) mi' ∧ fr rdA rdB mi ml mi' ml := by
  obtain ⟨C, S, hp, e5, hz⟩ := R
  obtain ⟨mi', h1, h2, h3⟩ := s_step (ro := ro) (d := d) (ml := ml) Z C (tE_le T hp) S.2.2
  have F : fr rdA rdB mi ml mi' ml := ⟨fun k j q => h3 k j (by unfold rdA at q; simp only [Bool.or_eq_false_iff] at q; exact q.1), fun _ _ _ => rfl⟩
  exact ⟨mi', h1, ⟨C.fr F, h2, tE_le T hp, (h3 5 1 rfl).trans e5, hz⟩, F⟩
theorem s_ts {k : Nat} {v : Int32} (Z : tOK T) (hv : v = nI k) (hk : k < 16) (R : RS T z mi) : ∃ mi', cS ro (d + 2) 70 [.ref 5, .int v] mi ml none mi' ml ∧ RS T (sgz T k z) mi' ∧ fr rdA rdB mi ml mi' ml := by
  have key : ∃ mi' ml', cS ro (d + 2) 70 [.ref 5, .int v] mi ml none mi' ml' ∧ (ml' = ml ∧ RS T (sgz T k z) mi' ∧ fr rdA rdB mi ml mi' ml) := by
    refine ab_ex_q rfl rfl (fun Q hQ => vc_X7_takeSign_0 v mi ml ?_)
    have h7 := tK_7 T z.2
    have hz := R.2.2.2.2
    obtain ⟨m1, h1, h2, h3⟩ := s_st (ro := ro) (d := d) (ml := ml) Z R
    obtain ⟨m2, g1, g2, g3⟩ := s_fail (ro := ro) (d := d) (ml := ml) (v := 1) Z (k := 1) rfl (by decide) R
    have no : ¬ (z.1 = 0 ∧ tK T z.2 = k) → Q none (ab_G m2 ml) := fun c => hQ _ _ ⟨rfl, by unfold sgz; rw [if_neg c]; exact g2, g3⟩
    rw [R.2.2.2.1, R.2.1.2.1, hv, xe_0 (by omega), nI_eq (by omega) (by omega)]
    refine ⟨fun c => ⟨fun c2 => ⟨_, _, h1, hQ _ _ ⟨rfl, ?_, h3⟩⟩, fun c2 => ⟨_, _, g1, no (fun h => c2 h.2)⟩⟩, fun c => ⟨_, _, g1, no (fun h => c h.1)⟩⟩
    unfold sgz; rw [if_pos ⟨c, c2⟩]; exact h2
  obtain ⟨mi', ml', h1, rfl, h2⟩ := key
  exact ⟨mi', h1, h2⟩
theorem s_atom (Z : tOK T) (R : RS T z mi) : cS ro (d + 1) 87 [.ref 2] mi ml (some (.int (aI (atP T z.2)))) mi ml := by
  obtain ⟨C, S, hp, e5, hz⟩ := R
  have hn := Z.1
  have hs := tS_le T hp
  have he := tE_le T hp
  have h7 := tK_7 T z.2
  have hge := tE_ge Z hp
  refine ab_sem_q rfl rfl (fun Q hQ => vc_X8_atom_0 mi ml ?_)
  have no : ¬ (tK T z.2 = 2 ∧ tE T z.2 - tS T z.2 = 1 ∧ T.2 (tS T z.2) < 104) → Q (some (.int (-1))) (ab_G mi ml) := fun c => by
    unfold atP at hQ; rw [if_neg c] at hQ; exact hQ
  rw [S.1, S.2.1, S.2.2, C.1, nI_m hge, xe_2 (by omega), xe_1 (by omega)]
  refine ⟨fun c => ⟨fun c2 => ?_, fun c2 => no (fun h => c2 h.2.1)⟩, fun c => no (fun h => c h.1)⟩
  have hlt : tS T z.2 < T.1 := by omega
  have k2 : kd T (tS T z.2) = 2 := by
    unfold tK at c
    by_cases q : (kd T (tS T z.2) = 2 ∧ 8 < tE T z.2 - tS T z.2) ∨ (kd T (tS T z.2) = 3 ∧ 3 < tE T z.2 - tS T z.2)
    · rw [if_pos q] at c; omega
    · rw [if_neg q] at c; exact c
  have hc : 97 ≤ T.2 (tS T z.2) ∧ T.2 (tS T z.2) ≤ 122 := by
    unfold kd at k2; rw [if_pos hlt] at k2
    unfold srt at k2
    by_cases q : 97 ≤ T.2 (tS T z.2) ∧ T.2 (tS T z.2) ≤ 122
    · exact q
    · rw [if_neg q] at k2
      revert k2; (repeat' split) <;> omega
  have e3 := (C.2 _ hlt).1
  have em : nI (T.2 (tS T z.2)) - 97 = nI (T.2 (tS T z.2) - 97) := nI_m (b := 97) hc.1
  simp (disch := omega) only [hlt, e3, em, nI_ltI, nI_eq, nI_clamp, nI_1, xl_0, xg_0, xe_0, xe_m1, nI_0, xl_1, xl_2, xl_3, xl_4, xl_5, xl_6, xl_7, xl_8, xl_9, xl_10, xl_12, xl_20, xl_30, xl_32, xl_40, xl_41, xl_42, xl_48, xl_57, xl_59, xl_64, xl_97, xl_100, xl_122, xl_126, xl_128, xl_1000, xl_9999, xg_1, xg_2, xg_3, xg_4, xg_5, xg_6, xg_7, xg_8, xg_9, xg_10, xg_12, xg_20, xg_30, xg_32, xg_40, xg_41, xg_42, xg_48, xg_57, xg_59, xg_64, xg_97, xg_100, xg_122, xg_126, xg_128, xg_1000, xg_9999, xe_1, xe_2, xe_3, xe_4, xe_5, xe_6, xe_7, xe_8, xe_9, xe_10, xe_12, xe_20, xe_30, xe_32, xe_40, xe_41, xe_42, xe_48, xe_57, xe_59, xe_64, xe_97, xe_100, xe_122, xe_126, xe_128, xe_1000, xe_9999, true_implies, false_implies, not_true_eq_false, not_false_eq_true, and_true, true_and, forall_const, imp_self, lc_eq, implies_true, vin, Bool.true_eq_false, Bool.false_eq_true, false_and, and_false, or_false, false_or, or_true, true_or]
  refine ⟨fun c3 => ?_, fun c3 => no (fun h => c3 (by omega))⟩
  have y : tK T z.2 = 2 ∧ tE T z.2 - tS T z.2 = 1 ∧ T.2 (tS T z.2) < 104 := ⟨c, c2, by omega⟩
  unfold atP at hQ; rw [if_pos y] at hQ
  unfold aI at hQ; rw [if_pos (by omega)] at hQ; exact hQ
end RS
