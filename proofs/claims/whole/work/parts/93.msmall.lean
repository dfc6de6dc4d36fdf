/-! The reference's small steps of reading. -/
def mrA (k j : Nat) : Bool := Nat.beq k 40 && (Nat.beq j 7 || Nat.beq j 8)
def mrB (k j : Nat) : Bool := Nat.beq k 40 && (Nat.beq j 10 || Nat.beq j 11)
def RM (T : tSt) (z : Nat × Nat) (mi : cM1) (ml : cM2) : Prop := (∃ N j, N ≤ 1000 ∧ tK T (pos T N) = 0 ∧ (∀ i, i < N → ¬ tK T (pos T i) = 0) ∧ (∀ i, i ≤ N → row T i mi ml) ∧ j ≤ N ∧ pos T j = z.2 ∧ mi 40 7 = nI j) ∧ mi 40 8 = nI z.1 ∧ z.1 < 2 ^ 20 ∧ ∀ w, w < 22 → ml 45 w = wds.getD w 0
/-- the token at z, in the reference -/
def TK (T : tSt) (z : Nat × Nat) (mi : cM1) (ml : cM2) (j : Nat) : Prop := mi 40 7 = nI j ∧ j ≤ 1000 ∧ mi 43 j = nI (tS T z.2) ∧ mi 42 j = nI (srO (tK T z.2)) ∧ (tK T z.2 = 2 → ml 44 j = hL (hN T (tS T z.2) (tE T z.2 - tS T z.2))) ∧ (tK T z.2 = 3 → ml 44 j = hL (nmv T z.2)) ∧ (4 ≤ tK T z.2 → tK T z.2 ≤ 6 → ml 44 j = hL (T.2 (tS T z.2)))
section RM
variable {ro : ab_E} {d : Nat} {mi mi' : cM1} {ml ml' : cM2} {T : tSt} {z z' : Nat × Nat}
theorem RM.tk (R : RM T z mi ml) : ∃ j, TK T z mi ml j := by
  obtain ⟨⟨N, j, h1, h2, h3, h4, h5, h6, h7⟩, _⟩ := R
  have r := h4 j h5
  unfold row at r
  rw [h6] at r
  exact ⟨j, h7, by omega, r⟩
theorem RM.le (R : RM T z mi ml) : z.2 ≤ T.1 := by
  obtain ⟨⟨N, j, h1, h2, h3, h4, h5, h6, h7⟩, _⟩ := R
  rw [← h6]; exact pos_le T j
theorem row.fr {j : Nat} (h : row T j mi ml) (F : fr mrA mrB mi ml mi' ml') : row T j mi' ml' := by
  unfold row
  rw [F.1 43 j rfl, F.1 42 j rfl, F.2 44 j rfl]; exact h
/-- a fault, the token staying -/
theorem RM.fl (R : RM T z mi ml) (F : fr mrA mrB mi ml mi' ml') (e7 : mi' 40 7 = mi 40 7) (e8 : mi' 40 8 = nI z'.1) (hz : z'.1 < 2 ^ 20) (h2 : z'.2 = z.2) : RM T z' mi' ml' := by
  obtain ⟨⟨N, j, h1, h2', h3, h4, h5, h6, h7⟩, h8, h9, h10⟩ := R
  exact ⟨⟨N, j, h1, h2', h3, fun i hi => (h4 i hi).fr F, h5, by rw [h2]; exact h6, e7.trans h7⟩, e8, hz, fun w hw => by rw [F.2 45 w rfl]; exact h10 w hw⟩
/-- one token on -/
theorem RM.st (R : RM T z mi ml) (hk : ¬ tK T z.2 = 0) : RM T (stz T z) (ab_ui mi 40 7 (mi 40 7 + 1)) ml := by
  obtain ⟨⟨N, j, h1, h2', h3, h4, h5, h6, h7⟩, h8, h9, h10⟩ := R
  have F : fr mrA mrB mi ml (ab_ui mi 40 7 (mi 40 7 + 1)) ml := fr.rf.ui _ rfl
  have jN : j < N := by
    rcases Nat.lt_or_eq_of_le h5 with q | q
    · exact q
    · rw [q, ] at h6; rw [h6] at h2'; exact absurd h2' hk
  refine ⟨⟨N, j + 1, h1, h2', h3, fun i hi => (h4 i hi).fr F, jN, ?_, ?_⟩, ?_, h9, h10⟩
  · show tE T (pos T j) = tE T z.2; rw [h6]
  · rw [ui_app, if_pos rfl, if_pos rfl, h7]; exact nI_1 j
  · rw [ui_app, if_pos rfl, if_neg (by decide)]; exact h8
theorem m_wrong {k : Nat} {v : Int32} (Z : tOK T) (hv : v = nI k) (hk : k < 16) (R : RM T z mi ml) : ∃ mi', cS ro (d + 1) 153 [.ref 40, .int v] mi ml none mi' ml ∧ RM T (flz T k z) mi' ml ∧ fr mrA mrB mi ml mi' ml := by
  have key : ∃ mi' ml', cS ro (d + 1) 153 [.ref 40, .int v] mi ml none mi' ml' ∧ (ml' = ml ∧ RM T (flz T k z) mi' ml ∧ fr mrA mrB mi ml mi' ml) := by
    refine ab_ex_q rfl rfl (fun Q hQ => vc_X12_wrong_0 v mi ml ?_)
    obtain ⟨j, K⟩ := R.tk
    have hz := R.2.2.1
    have hs := tS_le T R.le
    have hn := Z.1
    rw [R.2.1, K.1, xe_0 (by omega), nI_clamp (by have := K.2.1; omega), K.2.2.1]
    refine ⟨fun c => ⟨in_of (by have := K.2.1; omega) (by decide), hQ _ _ ⟨rfl, ?_, fr.rf.ui _ rfl⟩⟩, fun c => hQ _ _ ⟨rfl, ?_, fr.rf⟩⟩
    · unfold flz; rw [if_pos c]
      refine R.fl (fr.rf.ui _ rfl) (by rw [ui_app, if_pos rfl, if_neg (by decide)]) ?_ ?_ rfl
      · rw [ui_app, if_pos rfl, if_pos rfl, hv]
        show nI k + nI 16 * nI (tS T z.2) = _
        rw [nI_mul, nI_add]
      · show k + 16 * tS T z.2 < 2 ^ 20
        omega
    · unfold flz; rw [if_neg c]; exact R
  obtain ⟨mi', ml', h1, rfl, h2⟩ := key
  exact ⟨mi', h1, h2⟩
theorem srO_1 {k : Nat} (h : k ≤ 7) : (srO k = 1) = (k = 2) := by apply propext; unfold srO; (repeat' split) <;> omega
theorem srO_2 {k : Nat} (h : k ≤ 7) : (srO k = 2) = (k = 3) := by apply propext; unfold srO; (repeat' split) <;> omega
theorem srO_0 {k : Nat} : (srO k = 0) = (k = 0) := by apply propext; unfold srO; (repeat' split) <;> omega
theorem srO_3 {k : Nat} (h : k ≤ 7) (h1 : ¬ k = 1) : (srO k = 3) = (4 ≤ k ∧ k ≤ 6) := by apply propext; unfold srO; (repeat' split) <;> omega
theorem srO_l (k : Nat) : srO k < 5 := by unfold srO; (repeat' split) <;> omega
theorem tK_1 (Z : tOK T) (p : Nat) : ¬ tK T p = 1 := by
  have := tS_n1 Z p
  unfold tK; split <;> omega
theorem sg_c (Z : tOK T) {p : Nat} (h : 4 ≤ tK T p ∧ tK T p ≤ 6) : T.2 (tS T p) = (if tK T p = 4 then 40 else if tK T p = 5 then 41 else 59) := by
  have lt := tK_lt (T := T) (p := p) (by omega)
  have e : kd T (tS T p) = tK T p := by
    have h2 := h
    unfold tK at h2 ⊢
    by_cases q : (kd T (tS T p) = 2 ∧ 8 < tE T p - tS T p) ∨ (kd T (tS T p) = 3 ∧ 3 < tE T p - tS T p)
    · rw [if_pos q] at h2; omega
    · rw [if_neg q]
  rw [← e] at h ⊢
  rw [kd_c lt] at h ⊢
  revert h; unfold srt; (repeat' split) <;> omega
theorem m_isSign {k c : Nat} {v : Int32} (Z : tOK T) (hv : v = nI c) (hc : (k = 4 ∧ c = 40) ∨ (k = 5 ∧ c = 41) ∨ (k = 6 ∧ c = 59)) (R : RM T z mi ml) : cS ro (d + 1) 154 [.ref 40, .int v] mi ml (some (.int (pI (z.1 = 0 ∧ tK T z.2 = k)))) mi ml := by
  refine ab_sem_q rfl rfl (fun Q hQ => vc_X12_isSign_0 v mi ml ?_)
  obtain ⟨j, K⟩ := R.tk
  have hz := R.2.2.1
  have hj := K.2.1
  have h7 := tK_7 T z.2
  have h1 := tK_1 Z z.2
  have hl := srO_l (tK T z.2)
  rw [R.2.1, K.1, xe_0 (by omega), nI_clamp (by omega), K.2.2.2.1, xe_3 (by omega), srO_3 h7 h1, hv, hL_i _ (by omega), lc_eq]
  refine ⟨fun c0 => ⟨in_of (by omega) (by decide), ⟨fun cs => ⟨in_of (by omega) (by decide), ?_⟩, fun cs => ?_⟩⟩, fun c0 => ?_⟩
  · have e := sg_c Z cs
    rw [K.2.2.2.2.2.2 cs.1 cs.2, hL_e (by have : T.2 (tS T z.2) < 100 := by rw [e]; (repeat' split) <;> omega
                                          omega) (by omega), e]
    refine ⟨fun q => ?_, fun q => ?_⟩
    · rw [pI_1 ⟨c0, by revert q; (repeat' split) <;> omega⟩] at hQ; exact hQ
    · rw [pI_0 (fun h => q (by rw [h.2]; (repeat' split) <;> omega))] at hQ; exact hQ
  · rw [pI_0 (by omega)] at hQ; exact hQ
  · rw [pI_0 (fun h => c0 h.1)] at hQ; exact hQ
theorem m_isW {w : Nat} {v : Int32} {P : Prop} (Z : tOK T) (hv : v = nI w) (hw : w < 22) (hP : tK T z.2 = 2 → ((hL (hN T (tS T z.2) (tE T z.2 - tS T z.2)) = wds.getD w 0) ↔ P)) (hP2 : P → tK T z.2 = 2) (R : RM T z mi ml) : cS ro (d + 1) 155 [.ref 40, .int v] mi ml (some (.int (pI (z.1 = 0 ∧ P)))) mi ml := by
  refine ab_sem_q rfl rfl (fun Q hQ => vc_X12_isWord_0 v mi ml ?_)
  obtain ⟨j, K⟩ := R.tk
  have hz := R.2.2.1
  have hj := K.2.1
  have h7 := tK_7 T z.2
  have hl := srO_l (tK T z.2)
  rw [R.2.1, K.1, xe_0 (by omega), nI_clamp (by omega), K.2.2.2.1, xe_1 (by omega), srO_1 h7, hv, nI_clamp (by omega), R.2.2.2 w hw, lc_eq]
  refine ⟨fun c0 => ⟨in_of (by omega) (by decide), ⟨fun cs => ⟨in_of (by omega) (by decide), in_of hw (by decide), ?_⟩, fun cs => ?_⟩⟩, fun c0 => ?_⟩
  · rw [K.2.2.2.2.1 cs, hP cs]
    refine ⟨fun q => ?_, fun q => ?_⟩
    · rw [pI_1 ⟨c0, q⟩] at hQ; exact hQ
    · rw [pI_0 (fun h => q h.2)] at hQ; exact hQ
  · rw [pI_0 (fun h => cs (hP2 h.2))] at hQ; exact hQ
  · rw [pI_0 (fun h => c0 h.1)] at hQ; exact hQ
theorem m_isWord {w : Nat} {v : Int32} (Z : tOK T) (hv : v = nI w) (hw : w < 15) (R : RM T z mi ml) : cS ro (d + 1) 155 [.ref 40, .int v] mi ml (some (.int (pI (z.1 = 0 ∧ wdP T (wm w) z.2)))) mi ml := m_isW Z hv (by omega) (wd_h hw) (fun h => h.1) R
theorem m_isAtom {a : Nat} {v : Int32} (Z : tOK T) (hv : v = nI (15 + a)) (ha : a < 7) (R : RM T z mi ml) : cS ro (d + 1) 155 [.ref 40, .int v] mi ml (some (.int (pI (z.1 = 0 ∧ atP T z.2 = a)))) mi ml := m_isW Z hv (by omega) (at_h ha) (fun h => at_K (by omega)) R
noncomputable def atz (T : tSt) (z : Nat × Nat) : Nat := if z.1 = 0 then atP T z.2 else 7
theorem atP_7 (T : tSt) (p : Nat) : atP T p ≤ 7 := by unfold atP; split <;> omega
theorem m_atom (Z : tOK T) (R : RM T z mi ml) : cS ro (d + 2) 165 [.ref 40] mi ml (some (.int (aI (atz T z)))) mi ml := by
  refine ab_sem_q rfl rfl (fun Q hQ => vc_X12_atomHere_0 mi ml ?_)
  refine up0 (n := 7) (F := fun i => ∀ r, r = aI (if atz T z < i then atz T z else 7) → W_X12_atomHere_4 (cs ro (d + 1)) ro Q r (nI i) mi ml) (fun i hi ih r hr => ?_) (fun r hr => ?_) (-1) rfl
  · refine vc_X12_atomHere_4 _ _ mi ml ?_
    have e1 : nI i + 1 = nI (i + 1) := nI_1 i
    have e2 : (15 : Int32) + nI i = nI (15 + i) := nI_add 15 i
    rw [xl_7 (by omega), e1, e2]
    refine ⟨fun _ => ⟨_, _, _, m_isAtom Z rfl hi R, ⟨fun c => ih r ?_, fun c => ih _ ?_⟩⟩, fun q => absurd hi q⟩
    · have n := pI_e0.1 c
      have : ¬ atz T z = i := fun h => by
        unfold atz at h
        by_cases c0 : z.1 = 0
        · rw [if_pos c0] at h; exact n ⟨c0, h⟩
        · rw [if_neg c0] at h; omega
      rw [hr]; congr 1; (repeat' split) <;> omega
    · have y := Classical.not_not.1 (fun h => c (pI_e0.2 h))
      have : atz T z = i := by unfold atz; rw [if_pos y.1]; exact y.2
      rw [if_pos (by omega), this, aI_y hi]
  · refine vc_X12_atomHere_4 _ _ mi ml ?_
    rw [xl_7 (by omega)]
    refine ⟨fun q => absurd q (by omega), fun _ => ?_⟩
    have h7 : atz T z ≤ 7 := by unfold atz; have := atP_7 T z.2; split <;> omega
    have : (if atz T z < 7 then atz T z else 7) = atz T z := by split <;> omega
    rw [this] at hr
    rw [hr]; exact hQ
theorem m_takeSign {k c : Nat} {v : Int32} (Z : tOK T) (hv : v = nI c) (hc : (k = 4 ∧ c = 40) ∨ (k = 5 ∧ c = 41) ∨ (k = 6 ∧ c = 59)) (R : RM T z mi ml) : ∃ mi', cS ro (d + 2) 156 [.ref 40, .int v] mi ml none mi' ml ∧ RM T (sgz T k z) mi' ml ∧ fr mrA mrB mi ml mi' ml := by
  have key : ∃ mi' ml', cS ro (d + 2) 156 [.ref 40, .int v] mi ml none mi' ml' ∧ (ml' = ml ∧ RM T (sgz T k z) mi' ml ∧ fr mrA mrB mi ml mi' ml) := by
    refine ab_ex_q rfl rfl (fun Q hQ => vc_X12_takeSign_0 v mi ml ⟨_, _, _, m_isSign Z hv hc R, ?_⟩)
    obtain ⟨m2, g1, g2, g3⟩ := m_wrong (ro := ro) (d := d) (v := 1) Z (k := 1) rfl (by decide) R
    refine ⟨fun c => ⟨_, _, g1, hQ _ _ ⟨rfl, by unfold sgz; rw [if_neg (pI_e0.1 c)]; exact g2, g3⟩⟩, fun c => hQ _ _ ⟨rfl, ?_, fr.rf.ui _ rfl⟩⟩
    have y := Classical.not_not.1 (fun h => c (pI_e0.2 h))
    unfold sgz; rw [if_pos y]; exact R.st (by omega)
  obtain ⟨mi', ml', h1, rfl, h2⟩ := key
  exact ⟨mi', h1, h2⟩
theorem RM.p0 (R : RM T z mi ml) : RM T z (ab_ui mi 40 7 (mi 40 7 + 0)) ml := R.fl (fr.rf.ui _ rfl) (by rw [ui_app, if_pos rfl, if_pos rfl, Int32.add_zero]) (by rw [ui_app, if_pos rfl, if_neg (by decide)]; exact R.2.1) R.2.2.1 rfl
theorem m_hasSign {k c : Nat} {v : Int32} (Z : tOK T) (hv : v = nI c) (hc : (k = 4 ∧ c = 40) ∨ (k = 5 ∧ c = 41) ∨ (k = 6 ∧ c = 59)) (R : RM T z mi ml) : ∃ mi', cS ro (d + 2) 157 [.ref 40, .int v] mi ml (some (.int (pI (z.1 = 0 ∧ tK T z.2 = k)))) mi' ml ∧ RM T (if z.1 = 0 ∧ tK T z.2 = k then stz T z else z) mi' ml ∧ fr mrA mrB mi ml mi' ml := by
  have key : ∃ mi' ml', cS ro (d + 2) 157 [.ref 40, .int v] mi ml (some (.int (pI (z.1 = 0 ∧ tK T z.2 = k)))) mi' ml' ∧ (ml' = ml ∧ RM T (if z.1 = 0 ∧ tK T z.2 = k then stz T z else z) mi' ml ∧ fr mrA mrB mi ml mi' ml) := by
    refine ab_ex_q rfl rfl (fun Q hQ => vc_X12_hasSign_0 v mi ml ⟨_, _, _, m_isSign Z hv hc R, ?_⟩)
    refine ⟨fun c => ⟨pI_01' _, hQ _ _ ⟨rfl, by rw [if_neg (pI_e0.1 c)]; exact R.p0, fr.rf.ui _ rfl⟩⟩, fun c => ⟨pI_01' _, hQ _ _ ⟨rfl, ?_, fr.rf.ui _ rfl⟩⟩⟩
    have y := Classical.not_not.1 (fun h => c (pI_e0.2 h))
    rw [if_pos y]; exact R.st (by omega)
  obtain ⟨mi', ml', h1, rfl, h2⟩ := key
  exact ⟨mi', h1, h2⟩
noncomputable def hwz (T : tSt) (w : Nat) (z : Nat × Nat) : Nat × Nat := if z.1 = 0 ∧ pB (wdP T w z.2) = true then stz T z else z
theorem m_hasWord {w : Nat} {v : Int32} (Z : tOK T) (hv : v = nI w) (hw : w < 15) (R : RM T z mi ml) : ∃ mi', cS ro (d + 2) 158 [.ref 40, .int v] mi ml (some (.int (pI (z.1 = 0 ∧ wdP T (wm w) z.2)))) mi' ml ∧ RM T (hwz T (wm w) z) mi' ml ∧ fr mrA mrB mi ml mi' ml := by
  have key : ∃ mi' ml', cS ro (d + 2) 158 [.ref 40, .int v] mi ml (some (.int (pI (z.1 = 0 ∧ wdP T (wm w) z.2)))) mi' ml' ∧ (ml' = ml ∧ RM T (hwz T (wm w) z) mi' ml ∧ fr mrA mrB mi ml mi' ml) := by
    refine ab_ex_q rfl rfl (fun Q hQ => vc_X12_hasWord_0 v mi ml ⟨_, _, _, m_isWord Z hv hw R, ?_⟩)
    refine ⟨fun c => ⟨pI_01' _, hQ _ _ ⟨rfl, by unfold hwz; rw [if_neg (fun h => pI_e0.1 c ⟨h.1, pB_iff.1 h.2⟩)]; exact R.p0, fr.rf.ui _ rfl⟩⟩, fun c => ⟨pI_01' _, hQ _ _ ⟨rfl, ?_, fr.rf.ui _ rfl⟩⟩⟩
    have y := Classical.not_not.1 (fun h => c (pI_e0.2 h))
    unfold hwz; rw [if_pos ⟨y.1, pB_iff.2 y.2⟩]; exact R.st (by rw [y.2.1]; decide)
  obtain ⟨mi', ml', h1, rfl, h2⟩ := key
  exact ⟨mi', h1, h2⟩
theorem m_takeWord {w : Nat} {v : Int32} (Z : tOK T) (hv : v = nI w) (hw : w < 15) (R : RM T z mi ml) : ∃ mi', cS ro (d + 3) 159 [.ref 40, .int v] mi ml none mi' ml ∧ RM T (wdz T (wm w) z) mi' ml ∧ fr mrA mrB mi ml mi' ml := by
  have key : ∃ mi' ml', cS ro (d + 3) 159 [.ref 40, .int v] mi ml none mi' ml' ∧ (ml' = ml ∧ RM T (wdz T (wm w) z) mi' ml ∧ fr mrA mrB mi ml mi' ml) := by
    obtain ⟨m1, s1, R1, F1⟩ := m_hasWord (ro := ro) (d := d) Z hv hw R
    refine ab_ex_q rfl rfl (fun Q hQ => vc_X12_takeWord_0 v mi ml ⟨_, m1, ml, s1, ?_⟩)
    refine ⟨fun c => ?_, fun c => hQ _ _ ⟨rfl, ?_, F1⟩⟩
    · have n : ¬ (z.1 = 0 ∧ pB (wdP T (wm w) z.2) = true) := fun h => pI_e0.1 c ⟨h.1, pB_iff.1 h.2⟩
      have e : hwz T (wm w) z = z := by unfold hwz; rw [if_neg n]
      rw [e] at R1
      obtain ⟨m2, g1, g2, g3⟩ := m_wrong (ro := ro) (d := d + 1) (v := 1) Z (k := 1) rfl (by decide) R1
      exact ⟨m2, ml, g1, hQ _ _ ⟨rfl, by unfold wdz; rw [if_neg n]; exact g2, F1.tr g3⟩⟩
    · have y := Classical.not_not.1 (fun h => c (pI_e0.2 h))
      have p : z.1 = 0 ∧ pB (wdP T (wm w) z.2) = true := ⟨y.1, pB_iff.2 y.2⟩
      unfold hwz at R1; rw [if_pos p] at R1
      unfold wdz; rw [if_pos p]; exact R1
  obtain ⟨mi', ml', h1, rfl, h2⟩ := key
  exact ⟨mi', h1, h2⟩
end RM
