/-! The reference's laws: laid and asked. -/
def fr (A B : Nat → Nat → Bool) (mi : cM1) (ml : cM2) (mi' : cM1) (ml' : cM2) : Prop := (∀ k j, A k j = false → mi' k j = mi k j) ∧ (∀ k j, B k j = false → ml' k j = ml k j)
section FR
variable {A B : Nat → Nat → Bool} {mi mi1 mi2 : cM1} {ml ml1 ml2 : cM2}
theorem fr.rf : fr A B mi ml mi ml := ⟨fun _ _ _ => rfl, fun _ _ _ => rfl⟩
theorem fr.tr (h : fr A B mi ml mi1 ml1) (h2 : fr A B mi1 ml1 mi2 ml2) : fr A B mi ml mi2 ml2 := ⟨fun k j q => (h2.1 k j q).trans (h.1 k j q), fun k j q => (h2.2 k j q).trans (h.2 k j q)⟩
theorem fr.ui (h : fr A B mi ml mi1 ml1) {k j : Nat} (v : Int32) (q : A k j = true) : fr A B mi ml (ab_ui mi1 k j v) ml1 := by
  refine ⟨fun a b hab => ?_, h.2⟩
  rw [ui_app]
  by_cases e : a = k
  · by_cases e2 : b = j
    · rw [e, e2, q] at hab; cases hab
    · rw [if_pos e, if_neg e2]; exact h.1 a b hab
  · rw [if_neg e]; exact h.1 a b hab
theorem fr.ul (h : fr A B mi ml mi1 ml1) {k j : Nat} (v : Int64) (q : B k j = true) : fr A B mi ml mi1 (ab_ul ml1 k j v) := by
  refine ⟨h.1, fun a b hab => ?_⟩
  rw [ul_app]
  by_cases e : a = k
  · by_cases e2 : b = j
    · rw [e, e2, q] at hab; cases hab
    · rw [if_pos e, if_neg e2]; exact h.2 a b hab
  · rw [if_neg e]; exact h.2 a b hab
theorem fr.wk {A' B' : Nat → Nat → Bool} (h : fr A B mi ml mi1 ml1) (ha : ∀ k j, A k j = true → A' k j = true) (hb : ∀ k j, B k j = true → B' k j = true) : fr A' B' mi ml mi1 ml1 := by
  refine ⟨fun k j q => h.1 k j ?_, fun k j q => h.2 k j ?_⟩
  · cases e : A k j with
    | false => rfl
    | true => rw [ha k j e] at q; cases q
  · cases e : B k j with
    | false => rfl
    | true => rw [hb k j e] at q; cases q
theorem fr.c (h : fr A B mi ml mi1 ml1) {k : Nat} (q : ∀ j, A k j = false) : mi1 k = mi k := funext (fun j => h.1 k j (q j))
theorem fr.cl (h : fr A B mi ml mi1 ml1) {k : Nat} (q : ∀ j, B k j = false) : ml1 k = ml k := funext (fun j => h.2 k j (q j))
end FR
/-- what laying and asking writes -/
def bfI (k j : Nat) : Bool := Nat.beq k 64 || Nat.beq k 67 || (Nat.beq k 40 && (Nat.beq j 36 || Nat.beq j 42 || Nat.beq j 43))
def bfL (k j : Nat) : Bool := Nat.beq k 65 || Nat.beq k 66 || (Nat.beq k 40 && (Nat.beq j 40 || Nat.beq j 41))
theorem beqT {a b : Nat} : Nat.beq a b = true ↔ a = b := ⟨Nat.eq_of_beq_eq_true, fun h => by rw [h]; exact Nat.beq_refl b⟩
theorem bfI_c {k j : Nat} (h : bfI k j = true) : (k = 64 ∨ k = 67) ∨ (k = 40 ∧ (j = 36 ∨ j = 42 ∨ j = 43)) := by
  unfold bfI at h
  simp only [Bool.or_eq_true, Bool.and_eq_true, beqT] at h
  omega
theorem bfL_c {k j : Nat} (h : bfL k j = true) : (k = 65 ∨ k = 66) ∨ (k = 40 ∧ (j = 40 ∨ j = 41)) := by
  unfold bfL at h
  simp only [Bool.or_eq_true, Bool.and_eq_true, beqT] at h
  omega
section MB
variable {ro : ab_E} {d : Nat} {ti mi vi mi' : cM1} {tl ml vl ml' : cM2}
theorem eqM.fr (H : eqM ti tl vi vl mi ml) (h : fr bfI bfL mi ml mi' ml') : eqM ti tl vi vl mi' ml' := by
  refine ⟨fun k j q => ?_, fun k j q => ?_, fun k hk => ?_, fun k hk => ?_⟩
  · rw [h.1 k j, H.1 k j q]
    cases e : bfI k j with
    | false => rfl
    | true =>
      rcases bfI_c e with (e | e) | ⟨e, e2 | e2 | e2⟩
      · rw [e] at q; cases q
      · rw [e] at q; cases q
      · rw [e, e2] at q; cases q
      · rw [e, e2] at q; cases q
      · rw [e, e2] at q; cases q
  · rw [h.2 k j, H.2.1 k j q]
    cases e : bfL k j with
    | false => rfl
    | true =>
      rcases bfL_c e with (e | e) | ⟨e, e2 | e2⟩
      · rw [e] at q; cases q
      · rw [e] at q; cases q
      · rw [e, e2] at q; cases q
      · rw [e, e2] at q; cases q
  · rw [← H.2.2.1 k hk]
    funext j
    refine h.1 k j ?_
    cases e : bfI k j with
    | false => rfl
    | true => have := bfI_c e; omega
  · rw [← H.2.2.2 k hk]
    funext j
    refine h.2 k j ?_
    cases e : bfL k j with
    | false => rfl
    | true => have := bfL_c e; omega
/-- K is taken -/
def tkK (K : Nat → Prop) (mi : cM1) : Prop := ∀ w, w < 30 → mi 67 w = pI (K w)
theorem s_takesNone (mi : cM1) (ml : cM2) : ∃ mi', cS ro (d + 1) 189 [.ref 40] mi ml none mi' ml ∧ tkK (fun _ => False) mi' ∧ ∀ k, ¬ k = 67 → mi' k = mi k := by
  have key : ∃ mi' ml', cS ro (d + 1) 189 [.ref 40] mi ml none mi' ml' ∧ (ml' = ml ∧ tkK (fun _ => False) mi' ∧ ∀ k, ¬ k = 67 → mi' k = mi k) := by
    refine ab_ex_q rfl rfl (fun Q hQ => vc_X12_takesNone_0 mi ml ?_)
    refine up0 (n := 30) (F := fun i => ∀ mi', (∀ w, w < i → mi' 67 w = 0) → (∀ k, ¬ k = 67 → mi' k = mi k) → W_X12_takesNone_2 (cs ro d) ro Q (nI i) mi' ml) (fun i hi ih mi' Z K => ?_) (fun mi' Z K => ?_) mi (fun w hw => absurd hw (Nat.not_lt_zero w)) (fun _ _ => rfl)
    · refine vc_X12_takesNone_2 _ mi' ml ?_
      simp (disch := omega) only [hi, nar_0, nI_ltI, nI_eq, nI_clamp, nI_1, xl_0, xg_0, xe_0, xe_m1, nI_0, xl_1, xl_2, xl_3, xl_4, xl_5, xl_6, xl_7, xl_8, xl_9, xl_10, xl_12, xl_20, xl_30, xl_32, xl_40, xl_41, xl_42, xl_48, xl_57, xl_59, xl_64, xl_97, xl_100, xl_122, xl_126, xl_128, xl_1000, xl_9999, xg_1, xg_2, xg_3, xg_4, xg_5, xg_6, xg_7, xg_8, xg_9, xg_10, xg_12, xg_20, xg_30, xg_32, xg_40, xg_41, xg_42, xg_48, xg_57, xg_59, xg_64, xg_97, xg_100, xg_122, xg_126, xg_128, xg_1000, xg_9999, xe_1, xe_2, xe_3, xe_4, xe_5, xe_6, xe_7, xe_8, xe_9, xe_10, xe_12, xe_20, xe_30, xe_32, xe_40, xe_41, xe_42, xe_48, xe_57, xe_59, xe_64, xe_97, xe_100, xe_122, xe_126, xe_128, xe_1000, xe_9999, true_implies, false_implies, not_true_eq_false, not_false_eq_true, and_true, true_and, forall_const, imp_self, lc_eq, implies_true, vin, Bool.true_eq_false, Bool.false_eq_true, false_and, and_false, or_false, false_or, or_true, true_or]
      refine ih _ (fun w hw => ?_) (fun k hk => ?_)
      · rw [ui_app, if_pos rfl]
        by_cases e : w = i
        · rw [if_pos e]
        · rw [if_neg e]; exact Z w (by omega)
      · rw [← K k hk]; funext j; rw [ui_app, if_neg hk]
    · refine vc_X12_takesNone_2 _ mi' ml ?_
      simp (disch := omega) only [Nat.lt_irrefl, nI_ltI, nI_eq, nI_clamp, nI_1, xl_0, xg_0, xe_0, xe_m1, nI_0, xl_1, xl_2, xl_3, xl_4, xl_5, xl_6, xl_7, xl_8, xl_9, xl_10, xl_12, xl_20, xl_30, xl_32, xl_40, xl_41, xl_42, xl_48, xl_57, xl_59, xl_64, xl_97, xl_100, xl_122, xl_126, xl_128, xl_1000, xl_9999, xg_1, xg_2, xg_3, xg_4, xg_5, xg_6, xg_7, xg_8, xg_9, xg_10, xg_12, xg_20, xg_30, xg_32, xg_40, xg_41, xg_42, xg_48, xg_57, xg_59, xg_64, xg_97, xg_100, xg_122, xg_126, xg_128, xg_1000, xg_9999, xe_1, xe_2, xe_3, xe_4, xe_5, xe_6, xe_7, xe_8, xe_9, xe_10, xe_12, xe_20, xe_30, xe_32, xe_40, xe_41, xe_42, xe_48, xe_57, xe_59, xe_64, xe_97, xe_100, xe_122, xe_126, xe_128, xe_1000, xe_9999, true_implies, false_implies, not_true_eq_false, not_false_eq_true, and_true, true_and, forall_const, imp_self, lc_eq, implies_true, vin, Bool.true_eq_false, Bool.false_eq_true, false_and, and_false, or_false, false_or, or_true, true_or]
      exact hQ _ _ ⟨rfl, fun w hw => by rw [Z w hw, pI_0 id], K⟩
  obtain ⟨mi', ml', h1, rfl, h2, h3⟩ := key
  exact ⟨mi', h1, h2, h3⟩
/-- the places b are laid -/
def laid (tl : cM2) (b : List Nat) (mi : cM1) (ml : cM2) : Prop := mi 40 36 = nI b.length ∧ ∀ k, k < b.length → mi 64 k = bI (!mB tl (b.getD k 0)) ∧ ml 65 k = tl 10 (b.getD k 0) ∧ ml 66 k = tl 11 (b.getD k 0)
theorem nar_b (b : Bool) : vp_nar .boolean (bI b) = bI b := by cases b <;> decide +kernel
theorem s_lay {b : List Nat} (hb : b.length < 42) (L : laid tl b mi ml) (p : Nat) : ∃ mi' ml', cS ro (d + 1) 186 [.ref 40, .int (bI (!mB tl p)), .long (tl 10 p), .long (tl 11 p)] mi ml none mi' ml' ∧ laid tl (b ++ [p]) mi' ml' ∧ fr bfI bfL mi ml mi' ml' ∧ mi' 67 = mi 67 := by
  refine ⟨ab_ui (ab_ui mi 64 b.length (bI (!mB tl p))) 40 36 (nI (b.length + 1)), ab_ul (ab_ul ml 65 b.length (tl 10 p)) 66 b.length (tl 11 p), ab_sem_q rfl rfl (fun Q hQ => vc_X12_lay__0 _ _ _ mi ml ?_), ?_, (((fr.rf.ui _ rfl).ui _ rfl).ul _ rfl).ul _ rfl, ?_⟩
  · rw [L.1, nI_clamp (by omega), nI_1, nar_b]
    exact ⟨in_of hb (by decide), in_of hb (by decide), in_of hb (by decide), hQ⟩
  · refine ⟨by simp [ui_app], fun k hk => ?_⟩
    rw [getD_snoc]
    simp only [ui_app, ul_app]
    have hk' : k < b.length + 1 := by simpa using hk
    by_cases e : k = b.length
    · simp [e]
    · have : k < b.length := by omega
      simp [e, this]
      simpa [this] using L.2 k this
  · funext j; simp [ui_app]
/-- the set of the list -/
noncomputable def mem (b : List Nat) (p : Nat) : Bool := decide (p ∈ b)
theorem mem_get {b : List Nat} {k : Nat} (h : k < b.length) : b.getD k 0 ∈ b := by
  rw [gD h]; exact List.getElem_mem h
theorem get_mem {b : List Nat} {p : Nat} (h : p ∈ b) : ∃ k, k < b.length ∧ b.getD k 0 = p := by
  obtain ⟨k, h1, h2⟩ := List.getElem_of_mem h
  exact ⟨k, h1, by rw [gD h1]; exact h2⟩
theorem anL_mem {tl : cM2} {b : List Nat} (hb : ∀ p ∈ b, p < 42) (f : Nat → Int64) : anL (fun k => f (b.getD k 0)) (fun k => !mB tl (b.getD k 0)) b.length = anL f (fun p => mem b p && !mB tl p) 42 := by
  apply anL_congr
  intro j _
  constructor
  · intro h p hp q
    rw [Bool.and_eq_true] at q
    obtain ⟨k, h1, h2⟩ := get_mem (of_decide_eq_true q.1)
    have := h k h1 (by rw [h2]; exact q.2)
    rw [h2] at this
    exact this
  · intro h k hk q
    exact h _ (hb _ (mem_get hk)) (by rw [Bool.and_eq_true]; exact ⟨decide_eq_true (mem_get hk), q⟩)
/-- the may laid at k is so in no world -/
def vnk (tl : cM2) (b : List Nat) (k : Nat) : Prop := vn tl (mem b) (oA tl (mem b)) (oB tl (mem b)) (b.getD k 0)
theorem cQ_k {tl : cM2} {b : List Nat} (hb : ∀ p ∈ b, p < 42) : (∃ p, p < 42 ∧ vn tl (mem b) (oA tl (mem b)) (oB tl (mem b)) p) ↔ ∃ k, k < b.length ∧ vnk tl b k := by
  constructor
  · rintro ⟨p, h1, h2⟩
    obtain ⟨k, q1, q2⟩ := get_mem (of_decide_eq_true h2.1)
    exact ⟨k, q1, by unfold vnk; rw [q2]; exact h2⟩
  · rintro ⟨k, h1, h2⟩
    exact ⟨_, hb _ (mem_get h1), h2⟩
theorem and_cm6 (a b : Int64) : a &&& b = b &&& a := by
  apply b6_ext
  intro i _
  rw [b6_and, b6_and, Bool.and_comm]
theorem and_m1 (a : Int64) : a &&& (-1) = a := by
  apply b6_ext
  intro i hi
  rw [b6_and, b6_m1]
  simp [hi]
set_option maxHeartbeats 2000000 in
theorem s_asks {b : List Nat} (hb : ∀ p ∈ b, p < 42) (hl : b.length ≤ 42) (L : laid tl b mi ml) : ∃ mi' ml', cS ro (d + 1) 188 [.ref 40] mi ml none mi' ml' ∧ fr bfI bfL mi ml mi' ml' ∧ mi' 67 = mi 67 ∧ mi' 40 36 = nI b.length ∧ ml' 40 40 = oA tl (mem b) ∧ ml' 40 41 = oB tl (mem b) ∧ mi' 40 42 = cQ tl (mem b) ∧ mi' 40 43 = (@ite _ (oA tl (mem b) = 0 ∧ oB tl (mem b) = 0) (Classical.propDecidable _) (-1) (fI (vnk tl b) b.length)) ∧ laid tl b mi' ml' := by
  have hA := anL_mem hb (tl 10) (tl := tl)
  have hB := anL_mem hb (tl 11) (tl := tl)
  refine ab_ex_q rfl rfl (fun Q hQ => vc_X12_asks_0 mi ml ?_)
  refine up0 (n := b.length) (F := fun i => ∀ ml1, fr bfI bfL mi ml mi ml1 → laid tl b mi ml1 → ml1 40 40 = anL (fun k => tl 10 (b.getD k 0)) (fun k => !mB tl (b.getD k 0)) i → ml1 40 41 = anL (fun k => tl 11 (b.getD k 0)) (fun k => !mB tl (b.getD k 0)) i → W_X12_asks_16 (cs ro d) ro Q (nI i) mi ml1) (fun i hi ih ml1 F1 L1 a1 b1 => ?_) (fun ml1 F1 L1 a1 b1 => ?_) _ ((fr.rf.ul _ rfl).ul _ rfl) ⟨L.1, fun k hk => by have := L.2 k hk; simp only [ul_app]; simpa using this⟩ (by simp [ul_app]; rfl) (by simp [ul_app]; rfl)
  · refine vc_X12_asks_16 _ mi ml1 ?_
    obtain ⟨q1, q2, q3⟩ := L1.2 i hi
    have st : ∀ f : Nat → Int64, anL f (fun k => !mB tl (b.getD k 0)) (i + 1) = if (!mB tl (b.getD i 0)) = true then anL f (fun k => !mB tl (b.getD k 0)) i &&& f i else anL f (fun k => !mB tl (b.getD k 0)) i := fun f => rfl
    have Lk : ∀ x y, laid tl b mi (ab_ul (ab_ul ml1 40 40 x) 40 41 y) := fun x y => ⟨L1.1, fun k hk => by have := L1.2 k hk; simp only [ul_app]; simpa using this⟩
    simp (disch := omega) only [L1.1, hi, q1, q2, q3, a1, b1, bI_0, and_m1, nI_ltI, nI_eq, nI_clamp, nI_1, xl_0, xg_0, xe_0, xe_m1, nI_0, xl_1, xl_2, xl_3, xl_4, xl_5, xl_6, xl_7, xl_8, xl_9, xl_10, xl_12, xl_20, xl_30, xl_32, xl_40, xl_41, xl_42, xl_48, xl_57, xl_59, xl_64, xl_97, xl_100, xl_122, xl_126, xl_128, xl_1000, xl_9999, xg_1, xg_2, xg_3, xg_4, xg_5, xg_6, xg_7, xg_8, xg_9, xg_10, xg_12, xg_20, xg_30, xg_32, xg_40, xg_41, xg_42, xg_48, xg_57, xg_59, xg_64, xg_97, xg_100, xg_122, xg_126, xg_128, xg_1000, xg_9999, xe_1, xe_2, xe_3, xe_4, xe_5, xe_6, xe_7, xe_8, xe_9, xe_10, xe_12, xe_20, xe_30, xe_32, xe_40, xe_41, xe_42, xe_48, xe_57, xe_59, xe_64, xe_97, xe_100, xe_122, xe_126, xe_128, xe_1000, xe_9999, true_implies, false_implies, not_true_eq_false, not_false_eq_true, and_true, true_and, forall_const, imp_self, lc_eq, implies_true, vin, Bool.true_eq_false, Bool.false_eq_true, false_and, and_false, or_false, false_or, or_true, true_or]
    cases hm : (!mB tl (b.getD i 0)) with
    | false =>
      have e1 := st (fun k => tl 10 (b.getD k 0))
      have e2 := st (fun k => tl 11 (b.getD k 0))
      rw [hm, if_neg (by decide)] at e1 e2
      simp only [true_implies, not_true_eq_false, false_implies, and_true]
      exact ih _ ((F1.ul _ rfl).ul _ rfl) (Lk _ _) (by rw [e1]; simp [ul_app]) (by rw [e2]; simp [ul_app])
    | true =>
      have e1 := st (fun k => tl 10 (b.getD k 0))
      have e2 := st (fun k => tl 11 (b.getD k 0))
      rw [hm, if_pos rfl] at e1 e2
      simp only [Bool.true_eq_false, false_implies, true_and, not_false_eq_true, true_implies]
      exact ih _ ((F1.ul _ rfl).ul _ rfl) (Lk _ _) (by rw [e1]; simp [ul_app]) (by rw [e2]; simp [ul_app])
  · refine vc_X12_asks_16 _ mi ml1 ?_
    rw [hA] at a1
    rw [hB] at b1
    have a2 : ml1 40 40 = oA tl (mem b) := a1
    have b2 : ml1 40 41 = oB tl (mem b) := b1
    simp (disch := omega) only [L1.1, Nat.lt_irrefl, a2, b2, nI_ltI, nI_eq, nI_clamp, nI_1, xl_0, xg_0, xe_0, xe_m1, nI_0, xl_1, xl_2, xl_3, xl_4, xl_5, xl_6, xl_7, xl_8, xl_9, xl_10, xl_12, xl_20, xl_30, xl_32, xl_40, xl_41, xl_42, xl_48, xl_57, xl_59, xl_64, xl_97, xl_100, xl_122, xl_126, xl_128, xl_1000, xl_9999, xg_1, xg_2, xg_3, xg_4, xg_5, xg_6, xg_7, xg_8, xg_9, xg_10, xg_12, xg_20, xg_30, xg_32, xg_40, xg_41, xg_42, xg_48, xg_57, xg_59, xg_64, xg_97, xg_100, xg_122, xg_126, xg_128, xg_1000, xg_9999, xe_1, xe_2, xe_3, xe_4, xe_5, xe_6, xe_7, xe_8, xe_9, xe_10, xe_12, xe_20, xe_30, xe_32, xe_40, xe_41, xe_42, xe_48, xe_57, xe_59, xe_64, xe_97, xe_100, xe_122, xe_126, xe_128, xe_1000, xe_9999, true_implies, false_implies, not_true_eq_false, not_false_eq_true, and_true, true_and, forall_const, imp_self, lc_eq, implies_true, vin, Bool.true_eq_false, Bool.false_eq_true, false_and, and_false, or_false, false_or, or_true, true_or]
    -- the second loop
    have second : ¬ (oA tl (mem b) = 0 ∧ oB tl (mem b) = 0) → W_X12_asks_124 (cs ro d) ro Q 0 (ab_ui (ab_ui mi 40 42 0) 40 43 (-1)) ml1 := by
      intro hne
      have hcq : cQ tl (mem b) = @ite _ (∃ k, k < b.length ∧ vnk tl b k) (Classical.propDecidable _) 3 0 := by
        unfold cQ
        rw [if_neg hne, propext (cQ_k (tl := tl) hb)]
      rw [hcq, if_neg hne] at hQ
      have done : ∀ mi', (∀ k j, ¬ (k = 40 ∧ (j = 42 ∨ j = 43)) → mi' k j = mi k j) → mi' 40 42 = (@ite _ (∃ k, k < b.length ∧ vnk tl b k) (Classical.propDecidable _) 3 0) → mi' 40 43 = fI (vnk tl b) b.length → Q none (ab_G mi' ml1) := fun mi' hk h1 h2 => by
        refine hQ _ _ ⟨⟨fun k j q => hk k j (fun e => ?_), F1.2⟩, funext (fun j => hk 67 j (fun e => by cases e.1)), (hk 40 36 (fun e => by rcases e.2 with e | e <;> cases e)).trans L1.1, a2, b2, h1, h2, ⟨(hk 40 36 (fun e => by rcases e.2 with e | e <;> cases e)).trans L1.1, fun k q => ?_⟩⟩
        · rcases e with ⟨e1, e2 | e2⟩ <;> rw [e1, e2] at q <;> cases q
        · rw [hk 64 k (fun e => by cases e.1)]; exact L1.2 k q
      have cell : ∀ k, k < b.length → (∀ mi' : cM1, (∀ k j, ¬ (k = 40 ∧ (j = 42 ∨ j = 43)) → mi' k j = mi k j) → mi' 64 k = bI (!mB tl (b.getD k 0))) := fun k hk mi' h => by
        rw [h 64 k (fun e => by cases e.1)]; exact (L1.2 k hk).1
      refine up0 (n := b.length) (F := fun i => ∀ mi', (∀ k j, ¬ (k = 40 ∧ (j = 42 ∨ j = 43)) → mi' k j = mi k j) → (((∀ k, k < i → ¬ vnk tl b k) ∧ mi' 40 42 = 0 ∧ mi' 40 43 = -1) ∨ (∃ k, k < i ∧ vnk tl b k ∧ (∀ j, j < k → ¬ vnk tl b j) ∧ mi' 40 42 = 3 ∧ mi' 40 43 = nI k)) → W_X12_asks_124 (cs ro d) ro Q (nI i) mi' ml1) (fun i hi ih mi' hk hs => ?_) (fun mi' hk hs => ?_) _ (fun k j h => ?_) (Or.inl ⟨fun k hk => absurd hk (Nat.not_lt_zero k), by simp [ui_app], by simp [ui_app]⟩)
      · refine vc_X12_asks_124 _ mi' ml1 ?_
        have e36 : mi' 40 36 = nI b.length := (hk 40 36 (fun e => by rcases e.2 with e | e <;> cases e)).trans L1.1
        obtain ⟨_, q2, q3⟩ := L1.2 i hi
        have q1 := cell i hi mi' hk
        have hv : vnk tl b i ↔ (mB tl (b.getD i 0) = true ∧ tl 10 (b.getD i 0) &&& oA tl (mem b) = 0 ∧ tl 11 (b.getD i 0) &&& oB tl (mem b) = 0) := by
          unfold vnk vn
          rw [or6_0, and_cm6 (oA tl (mem b)), and_cm6 (oB tl (mem b))]
          exact ⟨fun h => h.2, fun h => ⟨decide_eq_true (mem_get hi), h⟩⟩
        rcases hs with ⟨hno, m42, m43⟩ | ⟨k, hki, hvk, hmin, m42, m43⟩
        · have e2 : ((0 : Int32) = 2) = False := eq_false (by decide)
          have e3 : ((-1 : Int32) < 0) = True := eq_true (by decide)
          have skip : ¬ vnk tl b i → W_X12_asks_124 (cs ro d) ro Q (nI (i + 1)) mi' ml1 := fun h => ih mi' hk (Or.inl ⟨fun k hk => by
            rcases Nat.lt_or_eq_of_le (Nat.le_of_lt_succ hk) with e | e
            · exact hno k e
            · rw [e]; exact h, m42, m43⟩)
          simp (disch := omega) only [e36, hi, m42, m43, e2, e3, q1, q2, q3, a2, b2, bI_0, nI_ltI, nI_eq, nI_clamp, nI_1, xl_0, xg_0, xe_0, xe_m1, nI_0, xl_1, xl_2, xl_3, xl_4, xl_5, xl_6, xl_7, xl_8, xl_9, xl_10, xl_12, xl_20, xl_30, xl_32, xl_40, xl_41, xl_42, xl_48, xl_57, xl_59, xl_64, xl_97, xl_100, xl_122, xl_126, xl_128, xl_1000, xl_9999, xg_1, xg_2, xg_3, xg_4, xg_5, xg_6, xg_7, xg_8, xg_9, xg_10, xg_12, xg_20, xg_30, xg_32, xg_40, xg_41, xg_42, xg_48, xg_57, xg_59, xg_64, xg_97, xg_100, xg_122, xg_126, xg_128, xg_1000, xg_9999, xe_1, xe_2, xe_3, xe_4, xe_5, xe_6, xe_7, xe_8, xe_9, xe_10, xe_12, xe_20, xe_30, xe_32, xe_40, xe_41, xe_42, xe_48, xe_57, xe_59, xe_64, xe_97, xe_100, xe_122, xe_126, xe_128, xe_1000, xe_9999, true_implies, false_implies, not_true_eq_false, not_false_eq_true, and_true, true_and, forall_const, imp_self, lc_eq, implies_true, vin, Bool.true_eq_false, Bool.false_eq_true, false_and, and_false, or_false, false_or, or_true, true_or]
          refine ⟨fun c => ⟨fun c2 => ⟨fun c3 => ?_, fun c3 => skip (fun h => c3 (hv.1 h).2.2)⟩, fun c2 => skip (fun h => c2 (hv.1 h).2.1)⟩, fun c => skip (fun h => c (by rw [(hv.1 h).1]; rfl))⟩
          refine ih _ (fun k j h => ?_) (Or.inr ⟨i, by omega, hv.2 ⟨by simpa using c, c2, c3⟩, hno, by simp [ui_app], by simp [ui_app]⟩)
          rw [← hk k j h]
          simp only [ui_app]
          by_cases e40 : k = 40
          · have h1 : ¬ j = 42 := fun e => h ⟨e40, Or.inl e⟩
            have h2 : ¬ j = 43 := fun e => h ⟨e40, Or.inr e⟩
            simp [h1, h2]
          · simp [e40]
        · have e2 : ((3 : Int32) = 2) = False := eq_false (by decide)
          have nx : W_X12_asks_124 (cs ro d) ro Q (nI (i + 1)) mi' ml1 := ih mi' hk (Or.inr ⟨k, by omega, hvk, hmin, m42, m43⟩)
          simp (disch := omega) only [e36, hi, m42, m43, e2, nI_ltI, nI_eq, nI_clamp, nI_1, xl_0, xg_0, xe_0, xe_m1, nI_0, xl_1, xl_2, xl_3, xl_4, xl_5, xl_6, xl_7, xl_8, xl_9, xl_10, xl_12, xl_20, xl_30, xl_32, xl_40, xl_41, xl_42, xl_48, xl_57, xl_59, xl_64, xl_97, xl_100, xl_122, xl_126, xl_128, xl_1000, xl_9999, xg_1, xg_2, xg_3, xg_4, xg_5, xg_6, xg_7, xg_8, xg_9, xg_10, xg_12, xg_20, xg_30, xg_32, xg_40, xg_41, xg_42, xg_48, xg_57, xg_59, xg_64, xg_97, xg_100, xg_122, xg_126, xg_128, xg_1000, xg_9999, xe_1, xe_2, xe_3, xe_4, xe_5, xe_6, xe_7, xe_8, xe_9, xe_10, xe_12, xe_20, xe_30, xe_32, xe_40, xe_41, xe_42, xe_48, xe_57, xe_59, xe_64, xe_97, xe_100, xe_122, xe_126, xe_128, xe_1000, xe_9999, true_implies, false_implies, not_true_eq_false, not_false_eq_true, and_true, true_and, forall_const, imp_self, lc_eq, implies_true, vin, Bool.true_eq_false, Bool.false_eq_true, false_and, and_false, or_false, false_or, or_true, true_or]
          simp only [nx, implies_true, and_self]
      · refine vc_X12_asks_124 _ mi' ml1 ?_
        have e36 : mi' 40 36 = nI b.length := (hk 40 36 (fun e => by rcases e.2 with e | e <;> cases e)).trans L1.1
        simp (disch := omega) only [e36, Nat.lt_irrefl, nI_ltI, nI_eq, nI_clamp, nI_1, xl_0, xg_0, xe_0, xe_m1, nI_0, xl_1, xl_2, xl_3, xl_4, xl_5, xl_6, xl_7, xl_8, xl_9, xl_10, xl_12, xl_20, xl_30, xl_32, xl_40, xl_41, xl_42, xl_48, xl_57, xl_59, xl_64, xl_97, xl_100, xl_122, xl_126, xl_128, xl_1000, xl_9999, xg_1, xg_2, xg_3, xg_4, xg_5, xg_6, xg_7, xg_8, xg_9, xg_10, xg_12, xg_20, xg_30, xg_32, xg_40, xg_41, xg_42, xg_48, xg_57, xg_59, xg_64, xg_97, xg_100, xg_122, xg_126, xg_128, xg_1000, xg_9999, xe_1, xe_2, xe_3, xe_4, xe_5, xe_6, xe_7, xe_8, xe_9, xe_10, xe_12, xe_20, xe_30, xe_32, xe_40, xe_41, xe_42, xe_48, xe_57, xe_59, xe_64, xe_97, xe_100, xe_122, xe_126, xe_128, xe_1000, xe_9999, true_implies, false_implies, not_true_eq_false, not_false_eq_true, and_true, true_and, forall_const, imp_self, lc_eq, implies_true, vin, Bool.true_eq_false, Bool.false_eq_true, false_and, and_false, or_false, false_or, or_true, true_or]
        rcases hs with ⟨hno, m42, m43⟩ | ⟨k, hki, hvk, hmin, m42, m43⟩
        · exact done mi' hk (by rw [m42, if_neg]; rintro ⟨k, h1, h2⟩; exact hno k h1 h2) (by rw [m43, fI_none hno])
        · exact done mi' hk (by rw [m42, if_pos ⟨k, hki, hvk⟩]) (by rw [m43, fI_hit hvk hmin hki (by omega)])
      · simp only [ui_app]
        by_cases e40 : k = 40
        · have h1 : ¬ j = 42 := fun e => h ⟨e40, Or.inl e⟩
          have h2 : ¬ j = 43 := fun e => h ⟨e40, Or.inr e⟩
          simp [h1, h2]
        · simp [e40]
    refine ⟨fun c => ⟨fun c2 => ?_, fun c2 => second (fun h => c2 h.2)⟩, fun c => second (fun h => c h.1)⟩
    have hz : oA tl (mem b) = 0 ∧ oB tl (mem b) = 0 := ⟨c, c2⟩
    have hcq : cQ tl (mem b) = 2 := by unfold cQ; rw [if_pos hz]
    rw [hcq, if_pos hz] at hQ
    refine vc_X12_asks_124 _ _ ml1 ?_
    have e36 : ab_ui (ab_ui mi 40 42 2) 40 43 (-1) 40 36 = nI b.length := by simp [ui_app]; exact L1.1
    have e42 : ab_ui (ab_ui mi 40 42 2) 40 43 (-1) 40 42 = 2 := by simp [ui_app]
    have fin : Q none (ab_G (ab_ui (ab_ui mi 40 42 2) 40 43 (-1)) ml1) := hQ _ _ ⟨((fr.rf.ui _ rfl).ui _ rfl : fr bfI bfL mi ml (ab_ui (ab_ui mi 40 42 2) 40 43 (-1)) ml).tr ⟨fun _ _ _ => rfl, F1.2⟩, by funext j; simp [ui_app], e36, a2, b2, e42, by simp [ui_app], ⟨e36, fun k hk => by have := L1.2 k hk; simp only [ui_app]; simpa using this⟩⟩
    have e22 : ((2 : Int32) = 2) = True := eq_true rfl
    simp only [e36, e42, e22, true_implies, not_true_eq_false, false_implies, and_true]
    exact ⟨fun _ => fin, fun _ => fin⟩
end MB
