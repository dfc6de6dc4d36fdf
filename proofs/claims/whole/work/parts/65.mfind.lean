/-! The reference finds its groups. -/
def fgI (k j : Nat) : Bool := bfI k j || Nat.beq k 68 || Nat.beq k 69 || Nat.beq k 72 || (Nat.beq k 40 && Nat.beq j 45)
def fgL (k j : Nat) : Bool := bfL k j || Nat.beq k 70 || Nat.beq k 71 || Nat.beq k 73 || Nat.beq k 74
def mys (tl : cM2) (b : List Nat) : List Nat := b.filter (mB tl)
/-- the law b is kept at place a -/
def kpt (tl : cM2) (a : Nat) (b : List Nat) (mi : cM1) (ml : cM2) : Prop := ml 70 a = oA tl (mem b) ∧ ml 71 a = oB tl (mem b) ∧ mi 72 a = nI (mys tl b).length ∧ ∀ j, j < (mys tl b).length → ml 73 (42 * a + j) = tl 10 ((mys tl b).getD j 0) ∧ ml 74 (42 * a + j) = tl 11 ((mys tl b).getD j 0)
section MF
variable {ro : ab_E} {d : Nat} {ti mi vi mi' : cM1} {tl ml vl ml' : cM2}
theorem fgI_c {k j : Nat} (h : fgI k j = true) : 40 ≤ k ∧ lmI k j = false := by
  unfold fgI at h
  simp only [Bool.or_eq_true, Bool.and_eq_true, beqT] at h
  rcases h with (((h | h) | h) | h) | h
  · rcases bfI_c h with (e | e) | ⟨e, e2 | e2 | e2⟩
    · rw [e]; exact ⟨by decide, rfl⟩
    · rw [e]; exact ⟨by decide, rfl⟩
    · rw [e, e2]; exact ⟨by decide, rfl⟩
    · rw [e, e2]; exact ⟨by decide, rfl⟩
    · rw [e, e2]; exact ⟨by decide, rfl⟩
  · rw [h]; exact ⟨by decide, rfl⟩
  · rw [h]; exact ⟨by decide, rfl⟩
  · rw [h]; exact ⟨by decide, rfl⟩
  · rw [h.1, h.2]; exact ⟨by decide, rfl⟩
theorem fgL_c {k j : Nat} (h : fgL k j = true) : 40 ≤ k ∧ lmL k j = false := by
  unfold fgL at h
  simp only [Bool.or_eq_true, beqT] at h
  rcases h with (((h | h) | h) | h) | h
  · rcases bfL_c h with (e | e) | ⟨e, e2 | e2⟩
    · rw [e]; exact ⟨by decide, rfl⟩
    · rw [e]; exact ⟨by decide, rfl⟩
    · rw [e, e2]; exact ⟨by decide, rfl⟩
    · rw [e, e2]; exact ⟨by decide, rfl⟩
  · rw [h]; exact ⟨by decide, rfl⟩
  · rw [h]; exact ⟨by decide, rfl⟩
  · rw [h]; exact ⟨by decide, rfl⟩
  · rw [h]; exact ⟨by decide, rfl⟩
theorem eqM_frg {A B : Nat → Nat → Bool} (hA : ∀ k j, A k j = true → 40 ≤ k ∧ lmI k j = false) (hB : ∀ k j, B k j = true → 40 ≤ k ∧ lmL k j = false) (H : eqM ti tl vi vl mi ml) (h : fr A B mi ml mi' ml') : eqM ti tl vi vl mi' ml' := by
  refine ⟨fun k j q => ?_, fun k j q => ?_, fun k hk => ?_, fun k hk => ?_⟩
  · rw [h.1 k j, H.1 k j q]
    cases e : A k j with
    | false => rfl
    | true => rw [(hA k j e).2] at q; cases q
  · rw [h.2 k j, H.2.1 k j q]
    cases e : B k j with
    | false => rfl
    | true => rw [(hB k j e).2] at q; cases q
  · rw [← H.2.2.1 k hk]
    funext j
    refine h.1 k j ?_
    cases e : A k j with
    | false => rfl
    | true => have := (hA k j e).1; omega
  · rw [← H.2.2.2 k hk]
    funext j
    refine h.2 k j ?_
    cases e : B k j with
    | false => rfl
    | true => have := (hB k j e).1; omega
theorem eqM_fg (H : eqM ti tl vi vl mi ml) (h : fr fgI fgL mi ml mi' ml') : eqM ti tl vi vl mi' ml' := eqM_frg (fun _ _ => fgI_c) (fun _ _ => fgL_c) H h
theorem bf_fg (h : fr bfI bfL mi ml mi' ml') : fr fgI fgL mi ml mi' ml' := h.wk (fun k j q => by unfold fgI; rw [q]; rfl) (fun k j q => by unfold fgL; rw [q]; rfl)
theorem nI_mul (a b : Nat) : nI a * nI b = nI (a * b) := (Int32.ofNat_mul a b).symm
theorem n42 (a : Nat) : (42 : Int32) * nI a = nI (42 * a) := nI_mul 42 a
theorem mys_take (tl : cM2) (b : List Nat) (i : Nat) (h : i < b.length) : mys tl (b.take (i + 1)) = mys tl (b.take i) ++ (if mB tl (b.getD i 0) = true then [b.getD i 0] else []) := by
  unfold mys
  rw [List.take_succ, List.getElem?_eq_getElem h, List.filter_append, gD h]
  congr 1
  simp [List.filter_cons]
theorem mys_le (tl : cM2) (b : List Nat) (i : Nat) : (mys tl (b.take i)).length ≤ (mys tl b).length := by
  unfold mys
  exact ((List.take_sublist i b).filter _).length_le
set_option maxHeartbeats 2000000 in
theorem s_keepsLaw (O : okT ti) (OM : okM ti tl) (H : eqM ti tl vi vl mi ml) {w a : Nat} (hw : w < nW ti) (ha : a < 30) : ∃ mi' ml', cS ro (d + 3) 195 [.ref 40, .int (nI w), .int (nI a)] mi ml none mi' ml' ∧ fr fgI fgL mi ml mi' ml' ∧ kpt tl a (bp ti (fun x => x = w)) mi' ml' ∧ mi' 68 = mi 68 ∧ mi' 69 = mi 69 ∧ mi' 40 45 = mi 40 45 ∧ (∀ b, ¬ b = a → mi' 72 b = mi 72 b ∧ ml' 70 b = ml 70 b ∧ ml' 71 b = ml 71 b ∧ ∀ j, j < 42 → ml' 73 (42 * b + j) = ml 73 (42 * b + j) ∧ ml' 74 (42 * b + j) = ml 74 (42 * b + j)) := by
  have hW := O.W2
  have hlt := bp_lt O (K := fun x => x = w)
  have hln := bp_len O (K := fun x => x = w)
  obtain ⟨mi1, s1, T1, K1⟩ := s_takesNone (ro := ro) (d := d + 1) mi ml
  have F1 : fr bfI bfL mi ml (ab_ui mi1 67 w 1) ml := (fr_67 K1).ui _ rfl
  have T2 : tkK (fun x => x = w) (ab_ui mi1 67 w 1) := fun x hx => by
    rw [ui_app, if_pos rfl]
    by_cases e : x = w
    · rw [if_pos e, pI_1 e]
    · rw [if_neg e, T1 x hx, pI_0 id, pI_0 e]
  obtain ⟨mi2, ml2, s2, F2, _, h1, h2, h3, _, _, L2⟩ := s_builds (ro := ro) (d := d) O OM (H.fr F1) T2
  have F3 := F1.tr F2
  generalize bp ti (fun x => x = w) = b at *
  refine ab_ex_q rfl rfl (fun Q hQ => vc_X12_keepsLaw_0 _ _ mi ml ⟨_, _, s1, ?_⟩)
  simp (disch := omega) only [nar_1, nI_ltI, nI_eq, nI_clamp, nI_1, xl_0, xg_0, xe_0, xe_m1, nI_0, xl_1, xl_2, xl_3, xl_4, xl_5, xl_6, xl_7, xl_8, xl_9, xl_10, xl_12, xl_20, xl_30, xl_32, xl_40, xl_41, xl_42, xl_48, xl_57, xl_59, xl_64, xl_97, xl_100, xl_122, xl_126, xl_128, xl_1000, xl_9999, xg_1, xg_2, xg_3, xg_4, xg_5, xg_6, xg_7, xg_8, xg_9, xg_10, xg_12, xg_20, xg_30, xg_32, xg_40, xg_41, xg_42, xg_48, xg_57, xg_59, xg_64, xg_97, xg_100, xg_122, xg_126, xg_128, xg_1000, xg_9999, xe_1, xe_2, xe_3, xe_4, xe_5, xe_6, xe_7, xe_8, xe_9, xe_10, xe_12, xe_20, xe_30, xe_32, xe_40, xe_41, xe_42, xe_48, xe_57, xe_59, xe_64, xe_97, xe_100, xe_122, xe_126, xe_128, xe_1000, xe_9999, true_implies, false_implies, not_true_eq_false, not_false_eq_true, and_true, true_and, forall_const, imp_self, lc_eq, implies_true, vin, Bool.true_eq_false, Bool.false_eq_true, false_and, and_false, or_false, false_or, or_true, true_or]
  refine ⟨_, _, s2, ?_⟩
  -- what stays of the other places
  have step : ∀ i, i ≤ b.length → ∀ mi3 ml3, fr fgI fgL mi ml mi3 ml3 → mi3 40 36 = nI b.length → (∀ k, k < b.length → mi3 64 k = bI (!mB tl (b.getD k 0)) ∧ ml3 65 k = tl 10 (b.getD k 0) ∧ ml3 66 k = tl 11 (b.getD k 0)) → ml3 70 a = oA tl (mem b) → ml3 71 a = oB tl (mem b) → mi3 72 a = nI (mys tl (b.take i)).length → (∀ j, j < (mys tl (b.take i)).length → ml3 73 (42 * a + j) = tl 10 ((mys tl (b.take i)).getD j 0) ∧ ml3 74 (42 * a + j) = tl 11 ((mys tl (b.take i)).getD j 0)) → mi3 68 = mi 68 → mi3 69 = mi 69 → mi3 40 45 = mi 40 45 → (∀ b, ¬ b = a → mi3 72 b = mi 72 b ∧ ml3 70 b = ml 70 b ∧ ml3 71 b = ml 71 b ∧ ∀ j, j < 42 → ml3 73 (42 * b + j) = ml 73 (42 * b + j) ∧ ml3 74 (42 * b + j) = ml 74 (42 * b + j)) → W_X12_keepsLaw_44 (cs ro (d + 2)) ro Q (nI w) (nI a) (nI i) mi3 ml3 := by
    intro i hi
    refine up (n := b.length) (F := fun i => ∀ mi3 ml3, fr fgI fgL mi ml mi3 ml3 → mi3 40 36 = nI b.length → (∀ k, k < b.length → mi3 64 k = bI (!mB tl (b.getD k 0)) ∧ ml3 65 k = tl 10 (b.getD k 0) ∧ ml3 66 k = tl 11 (b.getD k 0)) → ml3 70 a = oA tl (mem b) → ml3 71 a = oB tl (mem b) → mi3 72 a = nI (mys tl (b.take i)).length → (∀ j, j < (mys tl (b.take i)).length → ml3 73 (42 * a + j) = tl 10 ((mys tl (b.take i)).getD j 0) ∧ ml3 74 (42 * a + j) = tl 11 ((mys tl (b.take i)).getD j 0)) → mi3 68 = mi 68 → mi3 69 = mi 69 → mi3 40 45 = mi 40 45 → (∀ b, ¬ b = a → mi3 72 b = mi 72 b ∧ ml3 70 b = ml 70 b ∧ ml3 71 b = ml 71 b ∧ ∀ j, j < 42 → ml3 73 (42 * b + j) = ml 73 (42 * b + j) ∧ ml3 74 (42 * b + j) = ml 74 (42 * b + j)) → W_X12_keepsLaw_44 (cs ro (d + 2)) ro Q (nI w) (nI a) (nI i) mi3 ml3) (fun i hi ih mi3 ml3 F e36 L e70 e71 e72 E e68 e69 e45 R => ?_) (fun mi3 ml3 F e36 L e70 e71 e72 E e68 e69 e45 R => ?_) i hi
    · refine vc_X12_keepsLaw_44 _ _ _ mi3 ml3 ?_
      obtain ⟨q1, q2, q3⟩ := L i hi
      have hm := mys_take tl b i hi
      have hlm : (mys tl (b.take i)).length ≤ i := Nat.le_trans (List.length_filter_le _ _) (by rw [List.length_take]; omega)
      simp (disch := omega) only [e36, hi, q1, q2, q3, bI_0, e72, n42, nI_add, nI_ltI, nI_eq, nI_clamp, nI_1, xl_0, xg_0, xe_0, xe_m1, nI_0, xl_1, xl_2, xl_3, xl_4, xl_5, xl_6, xl_7, xl_8, xl_9, xl_10, xl_12, xl_20, xl_30, xl_32, xl_40, xl_41, xl_42, xl_48, xl_57, xl_59, xl_64, xl_97, xl_100, xl_122, xl_126, xl_128, xl_1000, xl_9999, xg_1, xg_2, xg_3, xg_4, xg_5, xg_6, xg_7, xg_8, xg_9, xg_10, xg_12, xg_20, xg_30, xg_32, xg_40, xg_41, xg_42, xg_48, xg_57, xg_59, xg_64, xg_97, xg_100, xg_122, xg_126, xg_128, xg_1000, xg_9999, xe_1, xe_2, xe_3, xe_4, xe_5, xe_6, xe_7, xe_8, xe_9, xe_10, xe_12, xe_20, xe_30, xe_32, xe_40, xe_41, xe_42, xe_48, xe_57, xe_59, xe_64, xe_97, xe_100, xe_122, xe_126, xe_128, xe_1000, xe_9999, true_implies, false_implies, not_true_eq_false, not_false_eq_true, and_true, true_and, forall_const, imp_self, lc_eq, implies_true, vin, Bool.true_eq_false, Bool.false_eq_true, false_and, and_false, or_false, false_or, or_true, true_or]
      refine ⟨fun c => ?_, fun c => ?_⟩
      · have c' : mB tl (b.getD i 0) = true := by simpa using c
        rw [if_pos c'] at hm
        refine ih _ _ ((F.ui _ rfl).ul _ rfl |>.ul _ rfl) ?_ (fun k hk => ?_) ?_ ?_ ?_ (fun j hj => ?_) ?_ ?_ ?_ (fun b' hb' => ?_)
        · simp [ui_app]; exact e36
        · simp only [ui_app, ul_app]; simpa using L k hk
        · simp [ul_app]; exact e70
        · simp [ul_app]; exact e71
        · rw [hm]; simp [ui_app]
        · rw [hm] at hj ⊢
          rw [getD_snoc]
          rw [List.length_append] at hj
          have hj : j < (mys tl (b.take i)).length + 1 := hj
          simp only [ul_app]
          by_cases e : j = (mys tl (b.take i)).length
          · simp [e]
          · have h4 : j < (mys tl (b.take i)).length := by omega
            have h5 : ¬ 42 * a + j = 42 * a + (mys tl (b.take i)).length := by omega
            simp only [h4, h5, if_true, if_false]
            simpa [h4] using E j h4
        · funext j; simp [ui_app, e68]
        · funext j; simp [ui_app, e69]
        · simp [ui_app]; exact e45
        · obtain ⟨r1, r2, r3, r4⟩ := R b' hb'
          refine ⟨?_, ?_, ?_, fun j hj => ?_⟩
          · simp [ui_app, hb', r1]
          · simp [ul_app, r2]
          · simp [ul_app, r3]
          · have h5 : ¬ 42 * b' + j = 42 * a + (mys tl (b.take i)).length := by omega
            simp only [ul_app, h5, if_true, if_false]
            simpa using r4 j hj
      · have c' : ¬ mB tl (b.getD i 0) = true := by simpa using c
        rw [if_neg c', List.append_nil] at hm
        exact ih _ _ F e36 L e70 e71 (by rw [hm]; exact e72) (by rw [hm]; exact E) e68 e69 e45 R
    · refine vc_X12_keepsLaw_44 _ _ _ mi3 ml3 ?_
      simp (disch := omega) only [e36, Nat.lt_irrefl, nI_ltI, nI_eq, nI_clamp, nI_1, xl_0, xg_0, xe_0, xe_m1, nI_0, xl_1, xl_2, xl_3, xl_4, xl_5, xl_6, xl_7, xl_8, xl_9, xl_10, xl_12, xl_20, xl_30, xl_32, xl_40, xl_41, xl_42, xl_48, xl_57, xl_59, xl_64, xl_97, xl_100, xl_122, xl_126, xl_128, xl_1000, xl_9999, xg_1, xg_2, xg_3, xg_4, xg_5, xg_6, xg_7, xg_8, xg_9, xg_10, xg_12, xg_20, xg_30, xg_32, xg_40, xg_41, xg_42, xg_48, xg_57, xg_59, xg_64, xg_97, xg_100, xg_122, xg_126, xg_128, xg_1000, xg_9999, xe_1, xe_2, xe_3, xe_4, xe_5, xe_6, xe_7, xe_8, xe_9, xe_10, xe_12, xe_20, xe_30, xe_32, xe_40, xe_41, xe_42, xe_48, xe_57, xe_59, xe_64, xe_97, xe_100, xe_122, xe_126, xe_128, xe_1000, xe_9999, true_implies, false_implies, not_true_eq_false, not_false_eq_true, and_true, true_and, forall_const, imp_self, lc_eq, implies_true, vin, Bool.true_eq_false, Bool.false_eq_true, false_and, and_false, or_false, false_or, or_true, true_or]
      rw [List.take_length] at e72 E
      exact hQ _ _ ⟨F, ⟨e70, e71, e72, E⟩, e68, e69, e45, R⟩
  have G3 := bf_fg F3
  refine step 0 (Nat.zero_le _) _ _ ((G3.ui _ rfl).ul _ rfl |>.ul _ rfl) ?_ (fun k hk => ?_) ?_ ?_ ?_ (fun j hj => absurd hj (Nat.not_lt_zero j)) ?_ ?_ ?_ (fun b' hb' => ?_)
  · simp [ui_app]; exact h1
  · simp only [ui_app, ul_app]; simpa using L2.2 k hk
  · simp [ul_app]; exact h2
  · simp [ul_app]; exact h3
  · simp [ui_app]; rfl
  · funext j; simp [ui_app]; exact F3.1 68 j rfl
  · funext j; simp [ui_app]; exact F3.1 69 j rfl
  · simp [ui_app]; exact F3.1 40 45 rfl
  · refine ⟨?_, ?_, ?_, fun j hj => ?_⟩
    · simp [ui_app, hb']; exact F3.1 72 b' rfl
    · simp [ul_app, hb']; exact F3.2 70 b' rfl
    · simp [ul_app, hb']; exact F3.2 71 b' rfl
    · simp [ul_app]; exact ⟨F3.2 73 _ rfl, F3.2 74 _ rfl⟩
/-- every may of b has its like in c -/
def wiP (tl : cM2) (b c : List Nat) : Prop := ∀ x ∈ mys tl b, ∃ y ∈ mys tl c, tl 10 x = tl 10 y ∧ tl 11 x = tl 11 y
set_option maxHeartbeats 2000000 in
theorem s_isWithin {p q : Nat} (hp : p < 30) (hq : q < 30) {b c : List Nat} (hb : b.length ≤ 42) (hc : c.length ≤ 42) (Kb : kpt tl p b mi ml) (Kc : kpt tl q c mi ml) : cS ro (d + 1) 196 [.ref 40, .int (nI p), .int (nI q)] mi ml (some (.int (pI (wiP tl b c)))) mi ml := by
  have hb' : (mys tl b).length ≤ 42 := Nat.le_trans (List.length_filter_le _ _) hb
  have hc' : (mys tl c).length ≤ 42 := Nat.le_trans (List.length_filter_le _ _) hc
  obtain ⟨_, _, b72, bE⟩ := Kb
  obtain ⟨_, _, c72, cE⟩ := Kc
  refine ab_sem_q rfl rfl (fun Q hQ => vc_X12_isWithin_0 _ _ mi ml ?_)
  have fals : ∀ i, i < (mys tl b).length → (¬ ∃ y ∈ mys tl c, tl 10 ((mys tl b).getD i 0) = tl 10 y ∧ tl 11 ((mys tl b).getD i 0) = tl 11 y) → Q (some (.int 0)) (ab_G mi ml) := fun i hi h => by
    rw [pI_0 (fun q => h (q _ (mem_get hi)))] at hQ; exact hQ
  refine up0 (n := (mys tl b).length) (F := fun i => (∀ k, k < i → ∃ y ∈ mys tl c, tl 10 ((mys tl b).getD k 0) = tl 10 y ∧ tl 11 ((mys tl b).getD k 0) = tl 11 y) → W_X12_isWithin_5 (cs ro d) ro Q (nI p) (nI q) 1 (nI i) mi ml) (fun i hi ih hyes => ?_) (fun hyes => ?_) (fun k hk => absurd hk (Nat.not_lt_zero k))
  · refine vc_X12_isWithin_5 _ _ _ _ mi ml ?_
    have e10 : ((1 : Int32) = 0) = False := eq_false (by decide)
    simp (disch := omega) only [b72, hi, e10, nI_ltI, nI_eq, nI_clamp, nI_1, xl_0, xg_0, xe_0, xe_m1, nI_0, xl_1, xl_2, xl_3, xl_4, xl_5, xl_6, xl_7, xl_8, xl_9, xl_10, xl_12, xl_20, xl_30, xl_32, xl_40, xl_41, xl_42, xl_48, xl_57, xl_59, xl_64, xl_97, xl_100, xl_122, xl_126, xl_128, xl_1000, xl_9999, xg_1, xg_2, xg_3, xg_4, xg_5, xg_6, xg_7, xg_8, xg_9, xg_10, xg_12, xg_20, xg_30, xg_32, xg_40, xg_41, xg_42, xg_48, xg_57, xg_59, xg_64, xg_97, xg_100, xg_122, xg_126, xg_128, xg_1000, xg_9999, xe_1, xe_2, xe_3, xe_4, xe_5, xe_6, xe_7, xe_8, xe_9, xe_10, xe_12, xe_20, xe_30, xe_32, xe_40, xe_41, xe_42, xe_48, xe_57, xe_59, xe_64, xe_97, xe_100, xe_122, xe_126, xe_128, xe_1000, xe_9999, true_implies, false_implies, not_true_eq_false, not_false_eq_true, and_true, true_and, forall_const, imp_self, lc_eq, implies_true, vin, Bool.true_eq_false, Bool.false_eq_true, false_and, and_false, or_false, false_or, or_true, true_or]
    obtain ⟨x1, x2⟩ := bE i hi
    refine up0 (n := (mys tl c).length) (F := fun o => ∀ h : Bool, (h = true ↔ ∃ k, k < o ∧ tl 10 ((mys tl b).getD i 0) = tl 10 ((mys tl c).getD k 0) ∧ tl 11 ((mys tl b).getD i 0) = tl 11 ((mys tl c).getD k 0)) → W_X12_isWithin_26 (cs ro d) ro Q (nI p) (nI q) 1 (nI i) (bI h) (nI o) mi ml) (fun o ho ih2 h hh => ?_) (fun h hh => ?_) false ⟨fun h => (by cases h), fun ⟨k, hk, _⟩ => absurd hk (Nat.not_lt_zero k)⟩
    · refine vc_X12_isWithin_26 _ _ _ _ _ _ mi ml ?_
      obtain ⟨y1, y2⟩ := cE o ho
      have l1 : 42 * p + i < 1260 := by omega
      have l2 : 42 * q + o < 1260 := by omega
      simp (disch := omega) only [c72, ho, n42, nI_add, x1, x2, y1, y2, bI_0, nI_ltI, nI_eq, nI_clamp, nI_1, xl_0, xg_0, xe_0, xe_m1, nI_0, xl_1, xl_2, xl_3, xl_4, xl_5, xl_6, xl_7, xl_8, xl_9, xl_10, xl_12, xl_20, xl_30, xl_32, xl_40, xl_41, xl_42, xl_48, xl_57, xl_59, xl_64, xl_97, xl_100, xl_122, xl_126, xl_128, xl_1000, xl_9999, xg_1, xg_2, xg_3, xg_4, xg_5, xg_6, xg_7, xg_8, xg_9, xg_10, xg_12, xg_20, xg_30, xg_32, xg_40, xg_41, xg_42, xg_48, xg_57, xg_59, xg_64, xg_97, xg_100, xg_122, xg_126, xg_128, xg_1000, xg_9999, xe_1, xe_2, xe_3, xe_4, xe_5, xe_6, xe_7, xe_8, xe_9, xe_10, xe_12, xe_20, xe_30, xe_32, xe_40, xe_41, xe_42, xe_48, xe_57, xe_59, xe_64, xe_97, xe_100, xe_122, xe_126, xe_128, xe_1000, xe_9999, true_implies, false_implies, not_true_eq_false, not_false_eq_true, and_true, true_and, forall_const, imp_self, lc_eq, implies_true, vin, Bool.true_eq_false, Bool.false_eq_true, false_and, and_false, or_false, false_or, or_true, true_or]
      have yes : ((∃ k, k < o ∧ tl 10 ((mys tl b).getD i 0) = tl 10 ((mys tl c).getD k 0) ∧ tl 11 ((mys tl b).getD i 0) = tl 11 ((mys tl c).getD k 0)) ∨ (tl 10 ((mys tl b).getD i 0) = tl 10 ((mys tl c).getD o 0) ∧ tl 11 ((mys tl b).getD i 0) = tl 11 ((mys tl c).getD o 0))) ↔ ∃ k, k < o + 1 ∧ tl 10 ((mys tl b).getD i 0) = tl 10 ((mys tl c).getD k 0) ∧ tl 11 ((mys tl b).getD i 0) = tl 11 ((mys tl c).getD k 0) := by
        constructor
        · rintro (⟨k, h1, h2⟩ | h)
          · exact ⟨k, by omega, h2⟩
          · exact ⟨o, by omega, h⟩
        · rintro ⟨k, h1, h2⟩
          rcases Nat.lt_or_eq_of_le (Nat.le_of_lt_succ h1) with e | e
          · exact Or.inl ⟨k, e, h2⟩
          · rw [e] at h2; exact Or.inr h2
      have y1' : (∃ k, k < o + 1 ∧ tl 10 ((mys tl b).getD i 0) = tl 10 ((mys tl c).getD k 0) ∧ tl 11 ((mys tl b).getD i 0) = tl 11 ((mys tl c).getD k 0)) → W_X12_isWithin_26 (cs ro d) ro Q (nI p) (nI q) 1 (nI i) 1 (nI (o + 1)) mi ml := fun h => ih2 true ⟨fun _ => h, fun _ => rfl⟩
      have n1' : (¬ ∃ k, k < o + 1 ∧ tl 10 ((mys tl b).getD i 0) = tl 10 ((mys tl c).getD k 0) ∧ tl 11 ((mys tl b).getD i 0) = tl 11 ((mys tl c).getD k 0)) → W_X12_isWithin_26 (cs ro d) ro Q (nI p) (nI q) 1 (nI i) 0 (nI (o + 1)) mi ml := fun h => ih2 false ⟨fun q => (by cases q), fun q => absurd q h⟩
      refine ⟨fun c0 => ⟨fun c1 => ⟨fun c2 => y1' (yes.1 (Or.inr ⟨c1, c2⟩)), fun c2 => n1' (fun q => ?_)⟩, fun c1 => n1' (fun q => ?_)⟩, fun c0 => y1' (yes.1 (Or.inl (hh.1 (by simpa using c0))))⟩
      · rcases yes.2 q with q | q
        · rw [hh.2 q] at c0; cases c0
        · exact c2 q.2
      · rcases yes.2 q with q | q
        · rw [hh.2 q] at c0; cases c0
        · exact c1 q.1
    · refine vc_X12_isWithin_26 _ _ _ _ _ _ mi ml ?_
      simp (disch := omega) only [c72, Nat.lt_irrefl, nI_ltI, nI_eq, nI_clamp, nI_1, xl_0, xg_0, xe_0, xe_m1, nI_0, xl_1, xl_2, xl_3, xl_4, xl_5, xl_6, xl_7, xl_8, xl_9, xl_10, xl_12, xl_20, xl_30, xl_32, xl_40, xl_41, xl_42, xl_48, xl_57, xl_59, xl_64, xl_97, xl_100, xl_122, xl_126, xl_128, xl_1000, xl_9999, xg_1, xg_2, xg_3, xg_4, xg_5, xg_6, xg_7, xg_8, xg_9, xg_10, xg_12, xg_20, xg_30, xg_32, xg_40, xg_41, xg_42, xg_48, xg_57, xg_59, xg_64, xg_97, xg_100, xg_122, xg_126, xg_128, xg_1000, xg_9999, xe_1, xe_2, xe_3, xe_4, xe_5, xe_6, xe_7, xe_8, xe_9, xe_10, xe_12, xe_20, xe_30, xe_32, xe_40, xe_41, xe_42, xe_48, xe_57, xe_59, xe_64, xe_97, xe_100, xe_122, xe_126, xe_128, xe_1000, xe_9999, true_implies, false_implies, not_true_eq_false, not_false_eq_true, and_true, true_and, forall_const, imp_self, lc_eq, implies_true, vin, Bool.true_eq_false, Bool.false_eq_true, false_and, and_false, or_false, false_or, or_true, true_or]
      cases h with
      | true =>
        refine ih (fun k hk => ?_)
        rcases Nat.lt_or_eq_of_le (Nat.le_of_lt_succ hk) with e | e
        · exact hyes k e
        · obtain ⟨j, h1, h2⟩ := hh.1 rfl
          rw [e]
          exact ⟨_, mem_get h1, h2⟩
      | false =>
        refine vc_X12_isWithin_5 _ _ _ _ mi ml ?_
        have hno : ¬ ∃ y ∈ mys tl c, tl 10 ((mys tl b).getD i 0) = tl 10 y ∧ tl 11 ((mys tl b).getD i 0) = tl 11 y := by
          rintro ⟨y, h1, h2⟩
          obtain ⟨k, k1, k2⟩ := get_mem h1
          have := hh.2 ⟨k, k1, by rw [k2]; exact h2⟩
          cases this
        have fin := fals i hi hno
        have e00 : bI false = 0 := rfl
        simp (disch := omega) only [b72, e00, nI_ltI, nI_eq, nI_clamp, nI_1, xl_0, xg_0, xe_0, xe_m1, nI_0, xl_1, xl_2, xl_3, xl_4, xl_5, xl_6, xl_7, xl_8, xl_9, xl_10, xl_12, xl_20, xl_30, xl_32, xl_40, xl_41, xl_42, xl_48, xl_57, xl_59, xl_64, xl_97, xl_100, xl_122, xl_126, xl_128, xl_1000, xl_9999, xg_1, xg_2, xg_3, xg_4, xg_5, xg_6, xg_7, xg_8, xg_9, xg_10, xg_12, xg_20, xg_30, xg_32, xg_40, xg_41, xg_42, xg_48, xg_57, xg_59, xg_64, xg_97, xg_100, xg_122, xg_126, xg_128, xg_1000, xg_9999, xe_1, xe_2, xe_3, xe_4, xe_5, xe_6, xe_7, xe_8, xe_9, xe_10, xe_12, xe_20, xe_30, xe_32, xe_40, xe_41, xe_42, xe_48, xe_57, xe_59, xe_64, xe_97, xe_100, xe_122, xe_126, xe_128, xe_1000, xe_9999, true_implies, false_implies, not_true_eq_false, not_false_eq_true, and_true, true_and, forall_const, imp_self, lc_eq, implies_true, vin, Bool.true_eq_false, Bool.false_eq_true, false_and, and_false, or_false, false_or, or_true, true_or]
        exact ⟨fun _ => fin, fun _ => fin⟩
  · refine vc_X12_isWithin_5 _ _ _ _ mi ml ?_
    have e10 : ((1 : Int32) = 0) = False := eq_false (by decide)
    simp (disch := omega) only [b72, Nat.lt_irrefl, e10, nI_ltI, nI_eq, nI_clamp, nI_1, xl_0, xg_0, xe_0, xe_m1, nI_0, xl_1, xl_2, xl_3, xl_4, xl_5, xl_6, xl_7, xl_8, xl_9, xl_10, xl_12, xl_20, xl_30, xl_32, xl_40, xl_41, xl_42, xl_48, xl_57, xl_59, xl_64, xl_97, xl_100, xl_122, xl_126, xl_128, xl_1000, xl_9999, xg_1, xg_2, xg_3, xg_4, xg_5, xg_6, xg_7, xg_8, xg_9, xg_10, xg_12, xg_20, xg_30, xg_32, xg_40, xg_41, xg_42, xg_48, xg_57, xg_59, xg_64, xg_97, xg_100, xg_122, xg_126, xg_128, xg_1000, xg_9999, xe_1, xe_2, xe_3, xe_4, xe_5, xe_6, xe_7, xe_8, xe_9, xe_10, xe_12, xe_20, xe_30, xe_32, xe_40, xe_41, xe_42, xe_48, xe_57, xe_59, xe_64, xe_97, xe_100, xe_122, xe_126, xe_128, xe_1000, xe_9999, true_implies, false_implies, not_true_eq_false, not_false_eq_true, and_true, true_and, forall_const, imp_self, lc_eq, implies_true, vin, Bool.true_eq_false, Bool.false_eq_true, false_and, and_false, or_false, false_or, or_true, true_or]
    rw [pI_1] at hQ
    · exact hQ
    · intro x hx
      obtain ⟨k, k1, k2⟩ := get_mem hx
      rw [← k2]
      exact hyes k k1
theorem wi_hM {b c : List Nat} (hc : ∀ p ∈ c, p < 42) (hb : ∀ p ∈ b, p < 42) : wiP tl b c ↔ hM tl (mem c) (mem b) := by
  constructor
  · intro h p _ h1 h2
    obtain ⟨y, y1, y2⟩ := h p (List.mem_filter.2 ⟨of_decide_eq_true h1, h2⟩)
    obtain ⟨y3, y4⟩ := List.mem_filter.1 y1
    exact ⟨y, hc y y3, decide_eq_true y3, y4, y2⟩
  · intro h x hx
    obtain ⟨x1, x2⟩ := List.mem_filter.1 hx
    obtain ⟨o, _, o2, o3, o4⟩ := h x (hb x x1) (decide_eq_true x1) x2
    exact ⟨o, List.mem_filter.2 ⟨of_decide_eq_true o2, o3⟩, o4⟩
theorem s_areSame (O : okT ti) (OM : okM ti tl) (H : eqM ti tl vi vl mi ml) {g v w a : Nat} (hg : g < 30) (ha : a < 30) (hv : v < nW ti) (hw : w < nW ti) (el : mi 69 g = nI v) (Kg : kpt tl g (bp ti (fun x => x = v)) mi ml) (Ka : kpt tl a (bp ti (fun x => x = w)) mi ml) : cS ro (d + 2) 197 [.ref 40, .int (nI g), .int (nI w), .int (nI a)] mi ml (some (.int (pI (sameP ti tl v w)))) mi ml := by
  have hW := O.W2
  refine ab_sem_q rfl rfl (fun Q hQ => vc_X12_areSame_0 _ _ _ mi ml ?_)
  obtain ⟨v1, v2, _⟩ := OM.w v hv
  obtain ⟨w1, w2, _⟩ := OM.w w hw
  have A := Kg.1
  have A' := Ka.1
  have B := Kg.2.1
  have B' := Ka.2.1
  rw [mem_bp O (uq_one v)] at A B
  rw [mem_bp O (uq_one w)] at A' B'
  simp (disch := omega) only [el, H.e52, H.e53, v1, v2, w1, w2, A, A', B, B', nI_ltI, nI_eq, nI_clamp, nI_1, xl_0, xg_0, xe_0, xe_m1, nI_0, xl_1, xl_2, xl_3, xl_4, xl_5, xl_6, xl_7, xl_8, xl_9, xl_10, xl_12, xl_20, xl_30, xl_32, xl_40, xl_41, xl_42, xl_48, xl_57, xl_59, xl_64, xl_97, xl_100, xl_122, xl_126, xl_128, xl_1000, xl_9999, xg_1, xg_2, xg_3, xg_4, xg_5, xg_6, xg_7, xg_8, xg_9, xg_10, xg_12, xg_20, xg_30, xg_32, xg_40, xg_41, xg_42, xg_48, xg_57, xg_59, xg_64, xg_97, xg_100, xg_122, xg_126, xg_128, xg_1000, xg_9999, xe_1, xe_2, xe_3, xe_4, xe_5, xe_6, xe_7, xe_8, xe_9, xe_10, xe_12, xe_20, xe_30, xe_32, xe_40, xe_41, xe_42, xe_48, xe_57, xe_59, xe_64, xe_97, xe_100, xe_122, xe_126, xe_128, xe_1000, xe_9999, true_implies, false_implies, not_true_eq_false, not_false_eq_true, and_true, true_and, forall_const, imp_self, lc_eq, implies_true, vin, Bool.true_eq_false, Bool.false_eq_true, false_and, and_false, or_false, false_or, or_true, true_or]
  have keep : ti 13 v = 1 ∨ ti 13 w = 1 → (sameP ti tl v w ↔ ti 13 v = ti 13 w ∧ ti 14 v = ti 14 w) := fun c => ⟨fun h => h.elim (fun h => h.2) (fun h => (c.elim h.1 h.2.1).elim), fun h => Or.inl ⟨c, h⟩⟩
  have kk : ti 13 v = 1 ∨ ti 13 w = 1 → (ti 13 v = ti 13 w → (ti 14 v = ti 14 w → Q (some (.int 1)) (ab_G mi ml)) ∧ (¬ ti 14 v = ti 14 w → Q (some (.int 0)) (ab_G mi ml))) ∧ (¬ ti 13 v = ti 13 w → Q (some (.int 0)) (ab_G mi ml)) := fun c => by
    rw [pI_iff (keep c)] at hQ
    refine ⟨fun c1 => ⟨fun c2 => ?_, fun c2 => ?_⟩, fun c1 => ?_⟩
    · rw [pI_1 ⟨c1, c2⟩] at hQ; exact hQ
    · rw [pI_0 (fun h => c2 h.2)] at hQ; exact hQ
    · rw [pI_0 (fun h => c1 h.1)] at hQ; exact hQ
  refine ⟨fun c => kk (Or.inl c), fun c => ⟨fun c2 => kk (Or.inr c2), fun c2 => ?_⟩⟩
  have hs : sameP ti tl v w ↔ mS tl (LK ti (fun x => x = v)) (LK ti (fun x => x = w)) := ⟨fun h => h.elim (fun h => (h.1.elim c c2).elim) (fun h => h.2.2), fun h => Or.inr ⟨c, c2, h⟩⟩
  rw [pI_iff hs] at hQ
  have w1' : wiP tl (bp ti (fun x => x = v)) (bp ti (fun x => x = w)) ↔ hM tl (LK ti (fun x => x = w)) (LK ti (fun x => x = v)) := by
    rw [wi_hM (bp_lt O) (bp_lt O), mem_bp O (uq_one v), mem_bp O (uq_one w)]
  have w2' : wiP tl (bp ti (fun x => x = w)) (bp ti (fun x => x = v)) ↔ hM tl (LK ti (fun x => x = v)) (LK ti (fun x => x = w)) := by
    rw [wi_hM (bp_lt O) (bp_lt O), mem_bp O (uq_one v), mem_bp O (uq_one w)]
  refine ⟨fun c3 => ⟨fun c4 => ⟨_, _, _, s_isWithin hg ha (bp_len O) (bp_len O) Kg Ka, ?_⟩, fun c4 => ?_⟩, fun c3 => ?_⟩
  · rw [pI_e0, w1']
    refine ⟨fun c5 => ?_, fun c5 => ⟨_, _, _, s_isWithin ha hg (bp_len O) (bp_len O) Ka Kg, ?_⟩⟩
    · rw [pI_0 (fun h => c5 h.2.2.2)] at hQ; exact hQ
    · rw [pI_e0, w2']
      refine ⟨fun c6 => ?_, fun c6 => ?_⟩
      · rw [pI_0 (fun h => c6 h.2.2.1)] at hQ; exact hQ
      · rw [pI_1 ⟨c3, c4, Classical.not_not.1 c6, Classical.not_not.1 c5⟩] at hQ; exact hQ
  · rw [pI_0 (fun h => c4 h.2.1)] at hQ; exact hQ
  · rw [pI_0 (fun h => c3 h.1)] at hQ; exact hQ
end MF
