/-! A part of a saying, the class's side. -/
section CP
variable {L : Nat} {xs : Nat → Int32} {d : Nat} {mi : cM1} {ml : cM2} {T : tSt}
/-- the end of a piece: state z, and its worlds unless it failed -/
def PE (T : tSt) (z : Nat × Nat) (lo hi : Int64) (mi : cM1) (ml : cM2) (mi' : cM1) (ml' : cM2) : Prop := RS T z mi' ∧ (z.1 = 0 → ml' 5 2 = lo ∧ ml' 5 3 = hi) ∧ fr rdA rdB mi ml mi' ml'
theorem u52 (m : cM2) (a b : Int64) : ab_ul (ab_ul m 5 2 a) 5 3 b 5 2 = a ∧ ab_ul (ab_ul m 5 2 a) 5 3 b 5 3 = b := by
  constructor <;> simp [ul_app]
theorem s_smp (Z : tOK T) {p : Nat} (R : RS T (0, p) mi) : ∃ mi' ml', cS (ab_ro L xs) (d + 6) 76 [.ref 5] mi ml none mi' ml' ∧ PE T (0, tE T p) (smL T p) (smH T p) mi ml mi' ml' := by
  refine ab_ex_q rfl rfl (fun Q hQ => vc_X7_simplePart_0 mi ml ⟨_, _, _, s_atom Z R, ?_⟩)
  have fin : ∀ lo hi : Int64, lo = smL T p → hi = smH T p → ∃ (mi4 : cM1) (ml5 : cM2), cS (ab_ro L xs) (d + 5) 85 [.ref 2] mi (ab_ul (ab_ul ml 5 2 lo) 5 3 hi) none mi4 ml5 ∧ Q none (ab_G mi4 ml5) := fun lo hi h1 h2 => by
    obtain ⟨m1, s1, R1, F1⟩ := s_st (ro := ab_ro L xs) (d := d + 4) (ml := ab_ul (ab_ul ml 5 2 lo) 5 3 hi) Z R
    exact ⟨m1, _, s1, hQ _ _ ⟨R1, fun _ => by rw [(u52 ml lo hi).1, (u52 ml lo hi).2]; exact ⟨h1, h2⟩, ((fr.rf.ul _ rfl).ul _ rfl).tr F1⟩⟩
  have n7 : ¬ atP T p < 7 → ∀ v : Int64, v = (if pB (wdP T 9 p) = true then -1 else 0) → v = smL T p ∧ v = smH T p := fun c v e => by
    unfold smL smH; rw [if_neg c, if_neg c]; exact ⟨e, e⟩
  rw [aI_l0]
  refine ⟨fun c => ⟨_, _, _, s_wd9 Z R.1 R.2.2.1 R.2.1, ?_⟩, fun c => ?_⟩
  · refine ⟨fun c2 => ?_, fun c2 => ?_⟩
    · have e := n7 c 0 (by rw [if_neg (fun h => (pI_e0.1 c2) (pB_iff.1 h))])
      exact fin 0 0 e.1 e.2
    · have e := n7 c (-1) (by rw [if_pos (pB_iff.2 (Classical.not_not.1 (fun h => c2 (pI_e0.2 h))))])
      exact fin (-1) (-1) e.1 e.2
  · have c := Classical.not_not.1 c
    have c' : atP T (0, p).2 < 7 := c
    rw [aI_y c]
    refine ⟨fun _ => ?_, fun c3 => ?_⟩
    · have := fin (ab_alo (atP T p)) (ab_ahi (atP T p)) (by unfold smL; rw [if_pos c]) (by unfold smH; rw [if_pos c])
      rw [nI_clamp (by omega)]
      exact ⟨in_of c (by decide), in_of c (by decide), this⟩
    · rw [xl_7 (by omega)] at c3; exact absurd c' c3
theorem bI_pB (P : Prop) : bI (pB P) = pI P := by
  by_cases h : P
  · rw [pI_1 h, pB_iff.2 h]; rfl
  · rw [pI_0 h, pB_f.2 h]; rfl
theorem tb_or {m a : Nat} (h : m.testBit a = false) (i : Nat) : (m ||| 2 ^ a).testBit i = (m.testBit i || decide (i = a)) := by
  rw [Nat.testBit_or, Nat.testBit_two_pow]
  congr 1
  by_cases q : a = i
  · rw [decide_eq_true q, decide_eq_true q.symm]
  · rw [decide_eq_false q, decide_eq_false (fun e => q e.symm)]
theorem pcn_bit {f g : Nat → Bool} {a : Nat} (h : f a = false) (hg : ∀ i, g i = (f i || decide (i = a))) : ∀ n, pcn g n = pcn f n + (if a < n then 1 else 0)
  | 0 => by simp [pcn]
  | n + 1 => by
    have ih := pcn_bit h hg n
    by_cases q : n = a
    · have g1 : g n = true := by rw [hg, q]; simp
      have f0 : f n = false := by rw [q]; exact h
      rw [← pcn_s1 g1, ← pcn_s0 f0, ih, if_neg (by omega), if_pos (by omega)]
    · have e : g n = f n := by rw [hg, decide_eq_false q, Bool.or_false]
      cases c : f n with
      | true => rw [← pcn_s1 (e.trans c), ← pcn_s1 c, ih]; split <;> split <;> omega
      | false => rw [← pcn_s0 (e.trans c), ← pcn_s0 c, ih]; split <;> split <;> omega
set_option maxHeartbeats 1000000 in
theorem s_cnt (Z : tOK T) {p : Nat} {z : Nat × Nat} {lo hi : Int64} (R : RS T (0, p) mi) (c : CPr T p z lo hi) : ∃ mi' ml', cS (ab_ro L xs) (d + 8) 77 [.ref 5] mi ml none mi' ml' ∧ PE T z lo hi mi ml mi' ml' := by
  obtain ⟨m, z5, A, rfl, hm, clo, chi⟩ := c
  have hl : nmr T 8 (0, tE T p) < 100 := by
    unfold nmr; split <;> omega
  refine ab_ex_q rfl rfl (fun Q hQ => vc_X7_countedPart_0 mi ml ⟨_, _, _, s_wd11 Z R.1 R.2.2.1 R.2.1, ?_⟩)
  obtain ⟨m1, s1, R1, F1⟩ := s_st (ro := ab_ro L xs) (d := d + 6) (ml := ml) Z R
  refine ⟨_, _, s1, ?_⟩
  obtain ⟨m2, s2, R2, F2⟩ := s_tn (ro := ab_ro L xs) (d := d + 5) (ml := ml) (l := 8) (v := 8) Z rfl (by decide) R1
  refine ⟨_, _, _, s2, ?_⟩
  obtain ⟨m3, s3, R3, F3⟩ := s_tw14 (L := L) (xs := xs) (d := d + 1) (ml := ml) Z R2
  refine ⟨_, _, s3, ?_⟩
  obtain ⟨m4, s4, R4, F4⟩ := s_ts (ro := ab_ro L xs) (d := d + 5) (ml := ml) (k := 4) (v := 4) Z rfl (by decide) R3
  refine ⟨_, _, s4, ?_⟩
  obtain ⟨m5, s5, R5, F5⟩ := s_ta (ro := ab_ro L xs) (d := d + 5) (ml := ml) (m := 0) (v := 0) Z rfl (by decide) R4
  refine ⟨_, _, _, s5, ?_⟩
  have F := (((F1.tr F2).tr F3).tr F4).tr F5
  have ends : ∀ m6, RS T z5 m6 → fr rdA rdB mi ml m6 ml → ∃ (mi16 : cM1) (ml17 : cM2), cS (ab_ro L xs) (d + 7) 70 [.ref 5, .int 5] m6 ml none mi16 ml17 ∧ (∃ (r20 : Int64) (mi18 : cM1) (ml19 : cM2), cS (ab_ro L xs) (d + 7) 79 [.int 0, .int (nI m), .int (nI (nmr T 8 (0, tE T p))), .int (pI (wdP T 11 p))] mi16 ml17 (some (.long r20)) mi18 ml19 ∧ (∃ (r23 : Int64) (mi21 : cM1) (ml22 : cM2), cS (ab_ro L xs) (d + 7) 79 [.int 64, .int (nI m), .int (nI (nmr T 8 (0, tE T p))), .int (pI (wdP T 11 p))] mi18 (ab_ul ml19 5 2 r20) (some (.long r23)) mi21 ml22 ∧ (Q none (ab_G mi21 (ab_ul ml22 5 3 r23))))) := fun m6 R6 F6 => by
    obtain ⟨m7, s7, R7, F7⟩ := s_ts (ro := ab_ro L xs) (d := d + 5) (ml := ml) (k := 5) (v := 5) Z rfl (by decide) R6
    obtain ⟨x, h1, h2⟩ := s_half (ro := ab_ro L xs) (d := d + 5) (mi := m7) (ml := ml) (m := m) (l := nmr T 8 (0, tE T p)) (f := 0) (b := pB (wdP T 11 p)) hm hl (by decide)
    obtain ⟨y, g1, g2⟩ := s_half (ro := ab_ro L xs) (d := d + 5) (mi := m7) (ml := ab_ul ml 5 2 x) (m := m) (l := nmr T 8 (0, tE T p)) (f := 64) (b := pB (wdP T 11 p)) hm hl (by decide)
    rw [bI_pB] at h1 g1
    have ex : x = lo := b6_ext (fun i hi => by rw [h2 i hi, clo i hi])
    have ey : y = hi := b6_ext (fun i hi => by rw [g2 i hi, chi i hi])
    refine ⟨m7, ml, s7, x, m7, ml, h1, y, m7, _, g1, hQ _ _ ⟨R7, fun _ => ?_, (F6.tr F7).tr ((fr.rf.ul _ rfl).ul _ rfl)⟩⟩
    rw [(u52 ml x y).1, (u52 ml x y).2]; exact ⟨ex, ey⟩
  -- the row of atoms
  have loop : ∀ (mm : Nat) (zz : Nat × Nat), AL T mm zz m z5 → ∀ i m6, i ≤ 7 → mm < 128 → (zz.1 = 0 → pcn mm.testBit 7 = i + 1) → RS T zz m6 → fr rdA rdB mi ml m6 ml → W_X7_countedPart_44 (cs (ab_ro L xs) (d + 7)) (ab_ro L xs) Q (pI (wdP T 11 p)) (nI (nmr T 8 (0, tE T p))) (nI mm) (nI i) m6 ml := by
    intro mm zz A
    refine A.2 (fun mm zz => ∀ i m6, i ≤ 7 → mm < 128 → (zz.1 = 0 → pcn mm.testBit 7 = i + 1) → RS T zz m6 → fr rdA rdB mi ml m6 ml → W_X7_countedPart_44 (cs (ab_ro L xs) (d + 7)) (ab_ro L xs) Q (pI (wdP T 11 p)) (nI (nmr T 8 (0, tE T p))) (nI mm) (nI i) m6 ml) ?_ ?_
    · intro i m6 hi hmm hc R6 F6
      refine vc_X7_countedPart_44 _ _ _ _ m6 ml ?_
      have hz := R6.2.2.2.2
      have h7 := tK_7 T z5.2
      rw [R6.2.2.2.1, R6.2.1.2.1, xe_0 (by omega), xe_5 (by omega)]
      refine ⟨fun _ => ⟨fun c0 => ⟨fun _ => ends m6 R6 F6, fun c5 => absurd A.1 (by omega)⟩, fun _ => ends m6 R6 F6⟩, fun _ => ends m6 R6 F6⟩
    · intro mm zz h0 h5 ih i m6 hi hmm hc R6 F6
      refine vc_X7_countedPart_44 _ _ _ _ m6 ml ?_
      have hz := R6.2.2.2.2
      have h7 := tK_7 T zz.2
      have cnt := hc h0
      have le7 := pcn_le mm.testBit 7
      rw [R6.2.2.2.1, R6.2.1.2.1, xe_0 (by omega), xe_5 (by omega), xl_7 (by omega)]
      refine ⟨fun hi7 => ⟨fun _ => ⟨fun c5 => absurd c5 h5, fun _ => ?_⟩, fun c0 => absurd h0 c0⟩, fun hi7 => absurd cnt (by omega)⟩
      obtain ⟨m7, s7, R7, F7⟩ := s_ta (ro := ab_ro L xs) (d := d + 5) (ml := ml) (m := mm) Z rfl hmm R6
      refine ⟨_, _, _, s7, ?_⟩
      have e1 : nI i + 1 = nI (i + 1) := nI_1 i
      rw [e1]
      refine ih (i + 1) m7 (by omega) (akm_lt hmm) (fun z0 => ?_) R7 (F6.tr F7)
      by_cases a : (zz.1 = 0 ∧ atP T zz.2 < 7) ∧ mm.testBit (atP T zz.2) = false
      · have e : akm T mm zz = mm ||| 2 ^ atP T zz.2 := by unfold akm; rw [if_pos a]
        rw [e, pcn_bit a.2 (tb_or a.2) 7, if_pos a.1.2, cnt]
      · exfalso
        revert z0
        unfold akz; (repeat' split)
        · rename_i q1 q2; exact absurd ⟨q1, q2⟩ a
        · exact flz_n 3 (by decide)
        · exact flz_n 1 (by decide)
  refine loop _ _ A 0 m5 (by decide) (akm_lt (by decide)) (fun z0 => ?_) R5 F
  -- the first atom
  revert z0
  generalize sgz T 4 (wdz T 14 (nmz T 8 (0, tE T p))) = zz
  intro z0
  by_cases a : (zz.1 = 0 ∧ atP T zz.2 < 7) ∧ (0 : Nat).testBit (atP T zz.2) = false
  · have e : akm T 0 zz = 0 ||| 2 ^ atP T zz.2 := by unfold akm; rw [if_pos a]
    have p0 : pcn (0 : Nat).testBit 7 = 0 := by decide
    rw [e, pcn_bit a.2 (tb_or a.2) 7, if_pos a.1.2, p0]
  · exfalso
    revert z0
    unfold akz; (repeat' split)
    · rename_i q1 q2; exact absurd ⟨q1, q2⟩ a
    · exact flz_n 3 (by decide)
    · exact flz_n 1 (by decide)
end CP
