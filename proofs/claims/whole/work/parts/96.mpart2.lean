/-! Counted parts and the choice of a part, the reference's side. -/
section MQ
variable {ro : ab_E} {d : Nat} {mi mi' m1 m2 : cM1} {ml ml' l1 l2 : cM2} {T : tSt} {z z' : Nat × Nat} {lo hi : Int64}
theorem tcl_i1 {p : Nat} (h : atP T p < 7 ∨ wdP T 9 p ∨ wdP T 10 p) : tcl T p = 1 := by unfold tcl; rw [if_pos (pB_iff.2 h)]
theorem tcl_i2 {p : Nat} (h : ¬ (atP T p < 7 ∨ wdP T 9 p ∨ wdP T 10 p)) (h' : wdP T 11 p ∨ wdP T 12 p) : tcl T p = 2 := by unfold tcl; rw [if_neg (fun q => h (pB_iff.1 q)), if_pos (pB_iff.2 h')]
theorem tcl_i3 {p : Nat} (h : ¬ (atP T p < 7 ∨ wdP T 9 p ∨ wdP T 10 p)) (h' : ¬ (wdP T 11 p ∨ wdP T 12 p)) (h'' : wdP T 13 p) : tcl T p = 3 := by unfold tcl; rw [if_neg (fun q => h (pB_iff.1 q)), if_neg (fun q => h' (pB_iff.1 q)), if_pos (pB_iff.2 h'')]
theorem tcl_i4 {p : Nat} (h : ¬ (atP T p < 7 ∨ wdP T 9 p ∨ wdP T 10 p)) (h' : ¬ (wdP T 11 p ∨ wdP T 12 p)) (h'' : ¬ wdP T 13 p) : tcl T p = (if tK T p = 4 then 4 else 0) := by unfold tcl; rw [if_neg (fun q => h (pB_iff.1 q)), if_neg (fun q => h' (pB_iff.1 q)), if_neg (fun q => h'' (pB_iff.1 q))]
set_option maxHeartbeats 4000000 in
theorem m_part {e x p : Nat} {P : cM1 → cM2 → Prop} (Z : tOK T) (hx : x ≤ 6) (R : RM T (0, p) mi ml)
    (h0 : tcl T p = 0 → ∀ m', RM T (flz T 1 (0, p)) m' ml → fr mrA mrB mi ml m' ml → P m' ml)
    (h5 : ¬ tcl T p = 0 → ¬ x < 6 → ∀ m', RM T (flz T 5 (0, p)) m' ml → fr mrA mrB mi ml m' ml → P m' ml)
    (h1 : tcl T p = 1 → x < 6 → ∀ m' l', PM T (0, tE T p) (smL T p) (smH T p) mi ml m' l' → P m' l')
    (h2 : tcl T p = 2 → x < 6 → ∀ m1, RM T (0, p) m1 ml → fr mrA mrB mi ml m1 ml → ∃ m' l', cS ro (e + 3) 168 [.ref 40] m1 ml none m' l' ∧ P m' l')
    (h3 : tcl T p = 3 → x < 6 → ∀ m1, RM T (0, tE T p) m1 ml → fr mrA mrB mi ml m1 ml → ∃ m' l', cS ro (e + 3) 166 [.ref 40, .int (nI (x + 1))] m1 ml none m' l' ∧ P m' (ab_ul (ab_ul l' 40 10 ((l' 40 10) ^^^ (-1))) 40 11 ((l' 40 11) ^^^ (-1))))
    (h4 : tcl T p = 4 → x < 6 → ∀ m1, RM T (0, tE T p) m1 ml → fr mrA mrB mi ml m1 ml → ∃ m2 l2, cS ro (e + 3) 163 [.ref 40, .int (nI (x + 1))] m1 ml none m2 l2 ∧ ∃ m' l', cS ro (e + 3) 156 [.ref 40, .int 41] m2 l2 none m' l' ∧ P m' l') :
    ∃ mi' ml', cS ro (e + 4) 166 [.ref 40, .int (nI x)] mi ml none mi' ml' ∧ P mi' ml' := by
  refine ab_ex_q rfl rfl (fun Q hQ => vc_X12_readPart_0 (nI x) mi ml ?_)
  have e8 : mi 40 8 = nI 0 := R.2.1
  have y : ∀ {A B : Prop}, ¬ pI (A ∧ B) = 0 → B := fun h => (Classical.not_not.1 (fun q => h (pI_e0.2 q))).2
  have n : ∀ {B : Prop}, pI ((0, p).1 = 0 ∧ B) = 0 → ¬ B := fun h q => pI_e0.1 h ⟨rfl, q⟩
  have x6 : (nI x = 6) = (x = 6) := xe_6 (by omega)
  have w4 := m_isWord (ro := ro) (d := e + 2) (w := 4) (v := 4) Z rfl (by decide) R
  have w5 := m_isWord (ro := ro) (d := e + 2) (w := 5) (v := 5) Z rfl (by decide) R
  have w8 := m_isWord (ro := ro) (d := e + 2) (w := 8) (v := 8) Z rfl (by decide) R
  have w9 := m_isWord (ro := ro) (d := e + 2) (w := 9) (v := 9) Z rfl (by decide) R
  have w6 := m_isWord (ro := ro) (d := e + 2) (w := 6) (v := 6) Z rfl (by decide) R
  have sg := m_isSign (ro := ro) (d := e + 2) (k := 4) (c := 40) (v := 40) Z rfl (Or.inl ⟨rfl, rfl⟩) R
  have fS : ∀ k z' m', RM T z' m' ml → ¬ z'.1 = 0 → P m' ml → tlS ro (e + 3) Q (nI x) k m' ml := fun k z' m' R' nz hP => by
    have hb := R'.2.2.1
    unfold tlS; rw [R'.2.1, xg_0 (by omega)]
    exact ⟨fun _ => hQ _ _ hP, fun q => absurd (by omega) q⟩
  have fC : ∀ z' m', RM T z' m' ml → ¬ z'.1 = 0 → P m' ml → tlC ro (e + 3) Q (nI x) m' ml := fun z' m' R' nz hP => by
    have hb := R'.2.2.1
    unfold tlC; rw [R'.2.1, xg_0 (by omega)]
    exact ⟨fun _ => hQ _ _ hP, fun q => absurd (by omega) q⟩
  have DS : (tcl T p = 1 ∨ tcl T p = 3 ∨ tcl T p = 4) → (nI x = 6 → ∃ (a : cM1) (b : cM2), cS ro (e + 3) 153 [.ref 40, .int 5] mi ml none a b ∧ tlS ro (e + 3) Q (nI x) (aI (atP T p)) a b) ∧ (¬ nI x = 6 → tlS ro (e + 3) Q (nI x) (aI (atP T p)) mi ml) := fun hc => by
    rw [x6]
    refine ⟨fun c6 => ?_, fun c6 => ?_⟩
    · obtain ⟨a, g1, g2, g3⟩ := m_wrong (ro := ro) (d := e + 2) (v := 5) Z (k := 5) rfl (by decide) R
      exact ⟨a, ml, g1, fS _ _ a g2 (flz_n 5 (by decide)) (h5 (by omega) (by omega) a g2 g3)⟩
    · have x5 : x < 6 := by omega
      exact m_tlS Z x5 R hQ hc (fun c => h1 c x5) (fun c => h3 c x5) (fun c => h4 c x5)
  have DC : tcl T p = 2 → (nI x = 6 → ∃ (a : cM1) (b : cM2), cS ro (e + 3) 153 [.ref 40, .int 5] mi ml none a b ∧ tlC ro (e + 3) Q (nI x) a b) ∧ (¬ nI x = 6 → tlC ro (e + 3) Q (nI x) mi ml) := fun hc => by
    rw [x6]
    refine ⟨fun c6 => ?_, fun c6 => ?_⟩
    · obtain ⟨a, g1, g2, g3⟩ := m_wrong (ro := ro) (d := e + 2) (v := 5) Z (k := 5) rfl (by decide) R
      exact ⟨a, ml, g1, fC _ a g2 (flz_n 5 (by decide)) (h5 (by omega) (by omega) a g2 g3)⟩
    · exact m_tlC Z R hQ hc (h2 hc (by omega))
  refine ⟨fun q => absurd q (by rw [e8]; decide), fun _ => ⟨_, mi, ml, m_atom Z R, ?_⟩⟩
  have ea : atz T (0, p) = atP T p := if_pos rfl
  rw [ea]
  have aY : aI (atP T p) < 0 → ¬ atP T p < 7 := fun h => (aI_l0 (atP T p)).mp h
  have aN : ¬ aI (atP T p) < 0 → atP T p < 7 := fun h => Classical.not_not.1 (fun q => h ((aI_l0 (atP T p)).mpr q))
  refine ⟨_, mi, ml, w4, fun c4 => ?_, fun c4 => ?_⟩
  · refine ⟨_, mi, ml, w5, fun c5 => ?_, fun c5 => ?_⟩
    · have n9 : ¬ wdP T 9 p := n c4
      have n10 : ¬ wdP T 10 p := n c5
      refine ⟨_, mi, ml, w8, fun c8 => ?_, fun c8 => ?_⟩
      · have n11 : ¬ wdP T 11 p := n c8
        refine ⟨_, mi, ml, w9, fun c9 => ?_, fun c9 => ?_⟩
        · have n12 : ¬ wdP T 12 p := n c9
          refine ⟨fun ca => ?_, fun ca => DS (Or.inl (tcl_i1 (Or.inl (aN ca))))⟩
          have hs : ¬ (atP T p < 7 ∨ wdP T 9 p ∨ wdP T 10 p) := fun h => h.elim (aY ca) (fun h => h.elim n9 n10)
          have hc : ¬ (wdP T 11 p ∨ wdP T 12 p) := fun h => h.elim n11 n12
          refine ⟨_, mi, ml, w6, fun c6 => ?_, fun c6 => DS (Or.inr (Or.inl (tcl_i3 hs hc (y c6))))⟩
          have t := tcl_i4 hs hc (n c6)
          refine ⟨_, mi, ml, sg, fun cs => ?_, fun cs => DS (Or.inr (Or.inr (by rw [t, if_pos (y cs)])))⟩
          obtain ⟨a, g1, g2, g3⟩ := m_wrong (ro := ro) (d := e + 2) (v := 1) Z (k := 1) rfl (by decide) R
          exact ⟨a, ml, g1, fS _ _ a g2 (flz_n 1 (by decide)) (h0 (by rw [t, if_neg (n cs)]) a g2 g3)⟩
        · have y12 : wdP T 12 p := y c9
          refine ⟨fun ca => DC (tcl_i2 (fun h => h.elim (aY ca) (fun h => h.elim n9 n10)) (Or.inr y12)), fun ca => (at_w (by decide) (aN ca) y12).elim⟩
      · have y11 : wdP T 11 p := y c8
        refine ⟨fun ca => DC (tcl_i2 (fun h => h.elim (aY ca) (fun h => h.elim n9 n10)) (Or.inl y11)), fun ca => (at_w (by decide) (aN ca) y11).elim⟩
    · have y10 : wdP T 10 p := y c5
      have D := DS (Or.inl (tcl_i1 (Or.inr (Or.inr y10))))
      refine ⟨_, mi, ml, w8, fun c8 => ⟨_, mi, ml, w9, fun c9 => ⟨fun _ => D, fun _ => D⟩, fun c9 => ?_⟩, fun c8 => ?_⟩
      · have y12 : wdP T 12 p := y c9
        exact absurd (wd_u (by decide) (by decide) y10 y12) (by decide)
      · have y11 : wdP T 11 p := y c8
        exact absurd (wd_u (by decide) (by decide) y10 y11) (by decide)
  · have y9 : wdP T 9 p := y c4
    have D := DS (Or.inl (tcl_i1 (Or.inr (Or.inl y9))))
    refine ⟨_, mi, ml, w8, fun c8 => ⟨_, mi, ml, w9, fun c9 => ⟨fun _ => D, fun _ => D⟩, fun c9 => ?_⟩, fun c8 => ?_⟩
    · have y12 : wdP T 12 p := y c9
      exact absurd (wd_u (by decide) (by decide) y9 y12) (by decide)
    · have y11 : wdP T 11 p := y c8
      exact absurd (wd_u (by decide) (by decide) y9 y11) (by decide)
theorem sg_f {k : Nat} (h : ¬ z.1 = 0) : sgz T k z = z := by unfold sgz flz; rw [if_neg (fun q => h q.1), if_neg h]
set_option maxHeartbeats 2000000 in
theorem m_cnt (Z : tOK T) {p : Nat} (R : RM T (0, p) mi ml) (hk : tcl T p = 2) (c : CPr T p z lo hi) : ∃ mi' ml', cS ro (d + 4) 168 [.ref 40] mi ml none mi' ml' ∧ PM T z lo hi mi ml mi' ml' := by
  obtain ⟨m, z5, A, rfl, hm, clo, chi⟩ := c
  have hl : nmr T 8 (0, tE T p) < 100 := by
    unfold nmr; split <;> omega
  refine ab_ex_q rfl rfl (fun Q hQ => vc_X12_readCount_0 mi ml ⟨_, mi, ml, m_isWord (w := 8) Z rfl (by decide) R, ?_⟩)
  have eb : pI ((0, p).1 = 0 ∧ wdP T (wm 8) (0, p).2) = bI (pB (wdP T 11 p)) := by
    rw [bI_pB]
    by_cases h : wdP T 11 p
    · rw [pI_1 h, pI_1 ⟨rfl, h⟩]
    · rw [pI_0 h, pI_0 (fun q => h q.2)]
  rw [eb]
  have R1 := R.st (tcl_K (by rw [hk]; decide) : ¬ tK T (0, p).2 = 0)
  have F1 : fr mrA mrB mi ml (ab_ui mi 40 7 (mi 40 7 + 1)) ml := fr.rf.ui _ rfl
  obtain ⟨a2, s2, R2, F2⟩ := m_takeNumber (ro := ro) (d := d + 1) (l := 7) (v := 7) Z rfl (by decide) R1
  refine ⟨_, a2, ml, s2, ?_⟩
  obtain ⟨a3, s3, R3, F3⟩ := m_takeWord (ro := ro) (d := d) (w := 7) (v := 7) Z rfl (by decide) R2
  refine ⟨a3, ml, s3, ?_⟩
  obtain ⟨a4, s4, R4, F4⟩ := m_takeSign (ro := ro) (d := d + 1) (k := 4) (c := 40) (v := 40) Z rfl (Or.inl ⟨rfl, rfl⟩) R3
  refine ⟨a4, ml, s4, ?_⟩
  have F := ((F1.tr F2).tr F3).tr F4
  have R4 : RM T (sgz T 4 (wdz T 14 (nmz T 8 (0, tE T p)))) a4 ml := R4
  have fin : ∀ mm z' m6, RM T z' m6 ml → fr mrA mrB mi ml m6 ml → sgz T 5 z' = sgz T 5 z5 → ((sgz T 5 z5).1 = 0 → mm = m) → mm < 128 → ∃ (b1 : cM1) (b2 : cM2), cS ro (d + 3) 156 [.ref 40, .int 41] m6 ml none b1 b2 ∧ ∃ (b3 : cM1) (b4 : cM2), cS ro (d + 3) 162 [.ref 40, .int (nI mm), .int (nI (nmr T 8 (0, tE T p))), .int (bI (pB (wdP T 11 p)))] b1 b2 none b3 b4 ∧ Q none (ab_G b3 b4) := fun mm z' m6 R6 F6 es em hmm => by
    obtain ⟨a7, s7, R7, F7⟩ := m_takeSign (ro := ro) (d := d + 1) (k := 5) (c := 41) (v := 41) Z rfl (Or.inr (Or.inl ⟨rfl, rfl⟩)) R6
    rw [es] at R7
    obtain ⟨x, y, l', s, hC, q1, q2⟩ := m_counts (ro := ro) (d := d + 1) (mi := a7) (ml := ml) (m := mm) (l := nmr T 8 (0, tE T p)) (b := pB (wdP T 11 p)) hmm hl
    have RC := R7.cn hC
    refine ⟨a7, ml, s7, a7, l', s, hQ _ _ ⟨RC.1, fun q => ?_, (F6.tr F7).tr RC.2⟩⟩
    rw [em q] at q1 q2
    exact ⟨hC.1.trans (cbL_u q1 clo), hC.2.1.trans (cbL_u q2 chi)⟩
  have loop : ∀ (mm : Nat) (zz : Nat × Nat), AL T mm zz m z5 → (¬ zz.1 = 0 → z5 = zz) ∧ ∀ m6, mm < 128 → RM T zz m6 ml → fr mrA mrB mi ml m6 ml → W_X12_readCount_57 (cs ro (d + 3)) ro Q (bI (pB (wdP T 11 p))) (nI (nmr T 8 (0, tE T p))) (nI mm) m6 ml := by
    intro mm zz A
    refine A.2 (fun mm zz => (¬ zz.1 = 0 → z5 = zz) ∧ ∀ m6, mm < 128 → RM T zz m6 ml → fr mrA mrB mi ml m6 ml → W_X12_readCount_57 (cs ro (d + 3)) ro Q (bI (pB (wdP T 11 p))) (nI (nmr T 8 (0, tE T p))) (nI mm) m6 ml) ⟨fun _ => rfl, fun m6 hmm R6 F6 => ?_⟩ (fun mm zz h0 h5 ih => ⟨fun q => absurd h0 q, fun m6 hmm R6 F6 => ?_⟩)
    · refine vc_X12_readCount_57 _ _ _ m6 ml ?_
      have hz := R6.2.2.1
      rw [R6.2.1, xe_0 (by omega)]
      have f := fin m z5 m6 R6 F6 rfl (fun _ => rfl) hmm
      refine ⟨fun c0 => ⟨_, m6, ml, m_atom Z R6, ?_⟩, fun _ => f⟩
      have k5 : tK T z5.2 = 5 := by have := A.1; omega
      have n7 : ¬ atz T z5 < 7 := fun h => by
        unfold atz at h; rw [if_pos c0] at h; have := at_K h; omega
      rw [aI_l0]
      exact ⟨fun _ => f, fun q => absurd n7 q⟩
    · refine vc_X12_readCount_57 _ _ _ m6 ml ?_
      have hz := R6.2.2.1
      rw [R6.2.1, xe_0 (by omega)]
      refine ⟨fun _ => ⟨_, m6, ml, m_atom Z R6, ?_⟩, fun q => absurd h0 q⟩
      have ea : atz T zz = atP T zz.2 := if_pos h0
      rw [aI_l0, ea]
      refine ⟨fun ca => ?_, fun ca => ?_⟩
      · have ek : akz T mm zz = flz T 1 zz := by unfold akz; rw [if_neg (fun q => ca q.2)]
        have nz : ¬ (akz T mm zz).1 = 0 := by rw [ek]; exact flz_n 1 (by decide)
        have e5 := ih.1 nz
        have es : sgz T 5 zz = sgz T 5 z5 := by
          rw [e5, sg_f nz, ek]; unfold sgz; rw [if_neg (fun q => h5 q.2)]
        exact fin mm zz m6 R6 F6 es (fun q => absurd q (by rw [e5, sg_f nz]; exact nz)) hmm
      · have ca := Classical.not_not.1 ca
        refine ⟨_, m6, ml, m_atom Z R6, ?_⟩
        rw [ea, aI_y ca, b3_a1 _ (by omega), b3_nI (by omega), or_bit (by omega) (by omega)]
        refine ⟨fun cb => ?_, fun cb => ?_⟩
        · obtain ⟨a7, g1, g2, g3⟩ := m_wrong (ro := ro) (d := d + 2) (v := 3) Z (k := 3) rfl (by decide) R6
          have ek : akz T mm zz = flz T 3 zz := by unfold akz; rw [if_pos ⟨h0, ca⟩, if_neg (by rw [cb]; decide)]
          have em : akm T mm zz = mm := by unfold akm; rw [if_neg (fun q => by rw [cb] at q; exact absurd q.2 (by decide))]
          have := ih.2 a7 (by rw [em]; exact hmm) (by rw [ek]; exact g2) (F6.tr g3)
          rw [em] at this
          exact ⟨a7, ml, g1, this⟩
        · have cb : mm.testBit (atP T zz.2) = false := by cases h : mm.testBit (atP T zz.2) with
            | true => exact absurd h cb
            | false => rfl
          have ek : akz T mm zz = stz T zz := by unfold akz; rw [if_pos ⟨h0, ca⟩, if_pos cb]
          have em : akm T mm zz = mm ||| 2 ^ atP T zz.2 := by unfold akm; rw [if_pos ⟨⟨h0, ca⟩, cb⟩]
          have := ih.2 (ab_ui m6 40 7 (m6 40 7 + 1)) (akm_lt hmm) (by rw [ek]; exact R6.st (by rw [at_K ca]; decide)) (F6.ui _ rfl)
          rw [em] at this
          exact this
  -- the first
  generalize hz3 : sgz T 4 (wdz T 14 (nmz T 8 (0, tE T p))) = z3 at *
  have hzb := R4.2.2.1
  rw [R4.2.1, xe_0 (by omega)]
  refine ⟨fun c0 => ⟨_, a4, ml, m_atom Z R4, ?_⟩, fun c0 => ?_⟩
  · have ea : atz T z3 = atP T z3.2 := if_pos c0
    rw [aI_l0, ea]
    refine ⟨fun ca => ?_, fun ca => ?_⟩
    · obtain ⟨a7, g1, g2, g3⟩ := m_wrong (ro := ro) (d := d + 2) (v := 1) Z (k := 1) rfl (by decide) R4
      have ek : akz T 0 z3 = flz T 1 z3 := by unfold akz; rw [if_neg (fun q => ca q.2)]
      have em : akm T 0 z3 = 0 := by unfold akm; rw [if_neg (fun q => ca q.1.2)]
      rw [ek, em] at A
      exact ⟨a7, ml, g1, (loop 0 _ A).2 a7 (by decide) g2 (F.tr g3)⟩
    · have ca := Classical.not_not.1 ca
      exact (loop 0 z3 (AL.step c0 (by rw [at_K ca]; decide) A)).2 a4 (by decide) R4 F
  · have ek : akz T 0 z3 = z3 := by unfold akz flz; rw [if_neg (fun q => c0 q.1), if_neg c0]
    have em : akm T 0 z3 = 0 := by unfold akm; rw [if_neg (fun q => c0 q.1.1)]
    rw [ek, em] at A
    exact (loop 0 z3 A).2 a4 (by decide) R4 F
end MQ
