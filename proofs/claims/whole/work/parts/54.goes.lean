/-! The class's groups: found, and which go together. -/
def gsI (k j : Nat) : Bool := (Nat.beq k 25 && Nat.beq j 4) || Nat.beq k 26 || Nat.beq k 27 || Nat.beq k 30
def gfI (k j : Nat) : Bool := (Nat.beq k 25 && Nat.beq j 4) || Nat.beq k 27
def gsL (k : Nat) : Bool := Nat.beq k 28 || Nat.beq k 29
def gP (ti : cM1) (tl : cM2) (mi : cM1) (ml : cM2) : Prop := gF ti (ldr ti tl (nW ti)) mi ml ∧ (∀ w, w < nW ti → mi 26 w = ofG ti tl w) ∧ (∀ g, g < nG ti tl → ∀ h, b3 (mi 30 g) h = pB (h < nG ti tl ∧ touP ti tl (led ti tl g) (led ti tl h)))
def kP (ti : cM1) (tl : cM2) (ml : cM2) : Prop := ∀ s, s < 4096 → (b6 (ml 31 (s / 64)) (s % 64) = true → b6 (ml 32 (s / 64)) (s % 64) = pB (goeP ti tl (b3 (nI s)))) ∧ (b6 (ml 31 (s / 64)) (s % 64) = false → b6 (ml 32 (s / 64)) (s % 64) = false)
section GB
variable {ro : ab_E} {d : Nat} {ti mi mi' : cM1} {tl ml ml' : cM2}
theorem gfI_s {k j : Nat} (h : gfI k j = true) : gsI k j = true := by
  unfold gfI at h
  unfold gsI
  revert h
  cases (Nat.beq k 25 && Nat.beq j 4) <;> cases Nat.beq k 26 <;> cases Nat.beq k 27 <;> simp
theorem gF.of {l : List Nat} (G : gF ti l mi ml) (hi : ∀ k j, gfI k j = true → mi' k j = mi k j) (hl : ∀ k j, gsL k = true → ml' k j = ml k j) : gF ti l mi' ml' := by
  refine ⟨?_, fun g hg => ?_, fun g hg p => ?_, fun g hg p => ?_⟩
  · rw [hi 25 4 rfl]; exact G.1
  · rw [hi 27 g rfl]; exact G.2.1 g hg
  · rw [hl 28 g rfl]; exact G.2.2.1 g hg p
  · rw [hl 29 g rfl]; exact G.2.2.2 g hg p
theorem gP.of (G : gP ti tl mi ml) (hi : ∀ k j, gsI k j = true → mi' k j = mi k j) (hl : ∀ k j, gsL k = true → ml' k j = ml k j) : gP ti tl mi' ml' := by
  refine ⟨G.1.of (fun k j h => hi k j (gfI_s h)) hl, fun w hw => ?_, fun g hg h => ?_⟩
  · rw [hi 26 w rfl]; exact G.2.1 w hw
  · rw [hi 30 g rfl]; exact G.2.2 g hg h
theorem ui_else {k j a b : Nat} {v : Int32} {P : Nat → Nat → Bool} (h : P k j = false) (hab : P a b = true) : ab_ui mi k j v a b = mi a b := by
  rw [ui_app]
  by_cases e : a = k
  · by_cases e2 : b = j
    · rw [e, e2, h] at hab; cases hab
    · rw [if_pos e, if_neg e2]
  · rw [if_neg e]
theorem ul_else {k j a b : Nat} {v : Int64} {P : Nat → Bool} (h : P k = false) (hab : P a = true) : ab_ul ml k j v a b = ml a b := by
  rw [ul_app]
  by_cases e : a = k
  · rw [e, h] at hab; cases hab
  · rw [if_neg e]
theorem gF.ui {l : List Nat} (G : gF ti l mi ml) {k j : Nat} (v : Int32) (h : gfI k j = false) : gF ti l (ab_ui mi k j v) ml := G.of (fun _ _ hab => ui_else h hab) (fun _ _ _ => rfl)
theorem gP.ui (G : gP ti tl mi ml) {k j : Nat} (v : Int32) (h : gsI k j = false) : gP ti tl (ab_ui mi k j v) ml := G.of (fun _ _ hab => ui_else h hab) (fun _ _ _ => rfl)
theorem gP.ul (G : gP ti tl mi ml) {k j : Nat} (v : Int64) (h : gsL k = false) : gP ti tl mi (ab_ul ml k j v) := G.of (fun _ _ _ => rfl) (fun _ _ hab => ul_else h hab)
theorem kP.ul (G : kP ti tl ml) {k j : Nat} (v : Int64) (h : (Nat.beq k 31 || Nat.beq k 32) = false) : kP ti tl (ab_ul ml k j v) := by
  have h1 : ¬ 31 = k := fun e => by rw [← e] at h; cases h
  have h2 : ¬ 32 = k := fun e => by rw [← e] at h; cases h
  intro s hs
  rw [ul_app, ul_app, if_neg h1, if_neg h2]
  exact G s hs
/-- the groups stand, and what is known of their sets is right -/
def cP (ti : cM1) (tl : cM2) (mi : cM1) (ml : cM2) : Prop := eqP ti tl mi ml ∧ gP ti tl mi ml ∧ kP ti tl ml
def hP (ti : cM1) (tl : cM2) (mi : cM1) (ml : cM2) : Prop := eqP ti tl mi ml ∧ gP ti tl mi ml
theorem cP.h (C : cP ti tl mi ml) : hP ti tl mi ml := ⟨C.1, C.2.1⟩
theorem hP.op (C : hP ti tl mi ml) (a b : Int64) : hP ti tl mi (op ml a b) := ⟨C.1.op a b, (C.2.ul _ rfl).ul _ rfl⟩
def scI (k j : Nat) : Bool := lsI k j || gsI k j
def scL (k j : Nat) : Bool := lsL k j || gsL k || Nat.beq k 31 || Nat.beq k 32
theorem cP.ui (C : cP ti tl mi ml) {k j : Nat} (v : Int32) (h : scI k j = false) : cP ti tl (ab_ui mi k j v) ml := by
  have h := Bool.or_eq_false_iff.1 h
  exact ⟨C.1.ui v h.1, C.2.1.ui v h.2, C.2.2⟩
theorem cP.ul (C : cP ti tl mi ml) {k j : Nat} (v : Int64) (h : scL k j = false) : cP ti tl mi (ab_ul ml k j v) := by
  have h := Bool.or_eq_false_iff.1 h
  have h1 := Bool.or_eq_false_iff.1 h.1
  have h2 := Bool.or_eq_false_iff.1 h1.1
  exact ⟨C.1.ul v h2.1, C.2.1.ul v h2.2, C.2.2.ul v (by rw [h1.2, h.2]; rfl)⟩
theorem cP.op (C : cP ti tl mi ml) (a b : Int64) : cP ti tl mi (op ml a b) := (C.ul a rfl).ul b rfl
theorem gP.G (G : gP ti tl mi ml) : mi 25 4 = nI (nG ti tl) := G.1.1
theorem gP.f (G : gP ti tl mi ml) {g : Nat} (h : g < nG ti tl) : mi 27 g = nI (led ti tl g) := G.1.2.1 g h
theorem gP.c (G : gP ti tl mi ml) {g : Nat} (h : g < nG ti tl) (p : Nat) : b6 (ml 28 g) p = pB (cutP ti (led ti tl g) p) := G.1.2.2.1 g h p
theorem gP.l (G : gP ti tl mi ml) {g : Nat} (h : g < nG ti tl) (p : Nat) : b6 (ml 29 g) p = pB (filP ti (led ti tl g) p) := G.1.2.2.2 g h p
theorem b3_orbit (x : Int32) {k : Nat} (hk : k < 32) (i : Nat) : b3 (x ||| ((1 : Int32) <<< (nI k &&& 31))) i = (b3 x i || decide (i = k)) := by
  rw [b3_or, b3_bit hk]
theorem s_touchedBy (O : okT ti) (H : eqP ti tl mi ml) (F : gF ti (ldr ti tl (nW ti)) mi ml) {g : Nat} (hg : g < nG ti tl) : ∃ r, cS ro (d + 4) 29 [.ref 25, .int (nI g)] mi ml (some (.int r)) mi ml ∧ ∀ h, b3 r h = pB (h < nG ti tl ∧ touP ti tl (led ti tl g) (led ti tl h)) := by
  have hW := O.W2
  have hG := nG_le ti tl
  have key : ∃ r mi' ml', ab_sem ro ab_mt (d + 4) 29 [.ref 25, .int (nI g)] (ab_G mi ml) (some (.int r)) (ab_G mi' ml') ∧ ((∀ h, b3 r h = pB (h < nG ti tl ∧ touP ti tl (led ti tl g) (led ti tl h))) ∧ mi' = mi ∧ ml' = ml) := by
    refine ab_ei_q rfl rfl (fun Q hQ => vc_X4_touchedBy_0 _ mi ml ?_)
    refine up0 (n := nG ti tl) (F := fun i => ∀ r, (∀ h, b3 r h = pB (h < i ∧ touP ti tl (led ti tl g) (led ti tl h))) → W_X4_touchedBy_4 (cs ro (d + 3)) ro Q (nI g) r (nI i) mi ml) (fun i hi ih r hr => ?_) (fun r hr => ?_) 0 (fun h => ?_)
    · refine vc_X4_touchedBy_4 _ _ _ mi ml ?_
      have q1 : mi 27 g = nI (led ti tl g) := F.2.1 g hg
      have q2 : mi 27 i = nI (led ti tl i) := F.2.1 i hi
      have q3 : mi 25 4 = nI (nG ti tl) := F.1
      simp (disch := omega) only [q3, hi, q1, q2, nI_ltI, nI_eq, nI_clamp, nI_1, xl_0, xg_0, xe_0, xe_m1, nI_0, xl_1, xl_2, xl_3, xl_4, xl_5, xl_6, xl_7, xl_8, xl_9, xl_10, xl_12, xl_20, xl_30, xl_32, xl_40, xl_41, xl_42, xl_48, xl_57, xl_59, xl_64, xl_97, xl_100, xl_122, xl_126, xl_128, xl_1000, xl_9999, xg_1, xg_2, xg_3, xg_4, xg_5, xg_6, xg_7, xg_8, xg_9, xg_10, xg_12, xg_20, xg_30, xg_32, xg_40, xg_41, xg_42, xg_48, xg_57, xg_59, xg_64, xg_97, xg_100, xg_122, xg_126, xg_128, xg_1000, xg_9999, xe_1, xe_2, xe_3, xe_4, xe_5, xe_6, xe_7, xe_8, xe_9, xe_10, xe_12, xe_20, xe_30, xe_32, xe_40, xe_41, xe_42, xe_48, xe_57, xe_59, xe_64, xe_97, xe_100, xe_122, xe_126, xe_128, xe_1000, xe_9999, true_implies, false_implies, not_true_eq_false, not_false_eq_true, and_true, true_and, forall_const, imp_self, lc_eq, implies_true, vin, Bool.true_eq_false, Bool.false_eq_true, false_and, and_false, or_false, false_or, or_true, true_or]
      refine ⟨_, _, _, s_touch O H (led_lt ti tl hg).1 (led_lt ti tl hi).1, ?_⟩
      rw [pI_e0]
      refine ⟨fun c => ih _ (fun h => ?_), fun c => ih _ (fun h => ?_)⟩
      · rw [hr]
        apply pB_congr
        constructor
        · rintro ⟨h1, h2⟩; exact ⟨by omega, h2⟩
        · rintro ⟨h1, h2⟩
          refine ⟨?_, h2⟩
          rcases Nat.lt_or_eq_of_le (Nat.le_of_lt_succ h1) with h | h
          · exact h
          · rw [h] at h2; exact absurd h2 c
      · rw [b3_orbit _ (by omega), hr]
        apply pB_eq
        rw [Bool.or_eq_true, pB_iff, decide_eq_true_iff]
        constructor
        · rintro (⟨h1, h2⟩ | h)
          · exact ⟨by omega, h2⟩
          · rw [h]; exact ⟨by omega, Classical.not_not.1 c⟩
        · rintro ⟨h1, h2⟩
          rcases Nat.lt_or_eq_of_le (Nat.le_of_lt_succ h1) with h | h
          · exact Or.inl ⟨h, h2⟩
          · exact Or.inr h
    · refine vc_X4_touchedBy_4 _ _ _ mi ml ?_
      have q3 : mi 25 4 = nI (nG ti tl) := F.1
      simp (disch := omega) only [q3, Nat.lt_irrefl, nI_ltI, nI_eq, nI_clamp, nI_1, xl_0, xg_0, xe_0, xe_m1, nI_0, xl_1, xl_2, xl_3, xl_4, xl_5, xl_6, xl_7, xl_8, xl_9, xl_10, xl_12, xl_20, xl_30, xl_32, xl_40, xl_41, xl_42, xl_48, xl_57, xl_59, xl_64, xl_97, xl_100, xl_122, xl_126, xl_128, xl_1000, xl_9999, xg_1, xg_2, xg_3, xg_4, xg_5, xg_6, xg_7, xg_8, xg_9, xg_10, xg_12, xg_20, xg_30, xg_32, xg_40, xg_41, xg_42, xg_48, xg_57, xg_59, xg_64, xg_97, xg_100, xg_122, xg_126, xg_128, xg_1000, xg_9999, xe_1, xe_2, xe_3, xe_4, xe_5, xe_6, xe_7, xe_8, xe_9, xe_10, xe_12, xe_20, xe_30, xe_32, xe_40, xe_41, xe_42, xe_48, xe_57, xe_59, xe_64, xe_97, xe_100, xe_122, xe_126, xe_128, xe_1000, xe_9999, true_implies, false_implies, not_true_eq_false, not_false_eq_true, and_true, true_and, forall_const, imp_self, lc_eq, implies_true, vin, Bool.true_eq_false, Bool.false_eq_true, false_and, and_false, or_false, false_or, or_true, true_or]
      exact hQ _ _ _ ⟨hr, rfl, rfl⟩
    · rw [b3_0, eq_comm, pB_f]
      rintro ⟨h1, _⟩
      exact absurd h1 (Nat.not_lt_zero _)
  obtain ⟨r, mi', ml', h1, h2, rfl, rfl⟩ := key
  exact ⟨r, h1, h2⟩
theorem ldr_last (ti : cM1) (tl : cM2) {w : Nat} (h : ¬ seenP ti w) : ldr ti tl (w + 1) = ldr ti tl w := by
  rw [ldr_s, pB_f.2 (fun q => h q.1)]; rfl
set_option maxHeartbeats 1000000 in
theorem s_renew (O : okT ti) (H : eqP ti tl mi ml) : ∃ mi' ml', cS ro (d + 6) 25 [.ref 25, .int (cSeen ti)] mi ml none mi' ml' ∧ cP ti tl mi' ml' := by
  have hW := O.W2
  have hG := nG_le ti tl
  refine ab_ex_q rfl rfl (fun Q hQ => vc_X4_renew_0 _ mi ml ?_)
  -- the words are emptied
  have L3 : ∀ mi ml, eqP ti tl mi ml → gP ti tl mi ml → W_X4_renew_80 (cs ro (d + 5)) ro Q (cSeen ti) 0 mi ml := by
    intro mi ml H G
    refine up0 (n := 64) (F := fun i => ∀ ml, eqP ti tl mi ml → gP ti tl mi ml → (∀ j, j < i → ml 31 j = 0 ∧ ml 32 j = 0) → W_X4_renew_80 (cs ro (d + 5)) ro Q (cSeen ti) (nI i) mi ml) (fun i hi ih ml H G Z => ?_) (fun ml H G Z => ?_) ml H G (fun j hj => absurd hj (Nat.not_lt_zero j))
    · refine vc_X4_renew_80 _ _ mi ml ?_
      simp (disch := omega) only [hi, nI_ltI, nI_eq, nI_clamp, nI_1, xl_0, xg_0, xe_0, xe_m1, nI_0, xl_1, xl_2, xl_3, xl_4, xl_5, xl_6, xl_7, xl_8, xl_9, xl_10, xl_12, xl_20, xl_30, xl_32, xl_40, xl_41, xl_42, xl_48, xl_57, xl_59, xl_64, xl_97, xl_100, xl_122, xl_126, xl_128, xl_1000, xl_9999, xg_1, xg_2, xg_3, xg_4, xg_5, xg_6, xg_7, xg_8, xg_9, xg_10, xg_12, xg_20, xg_30, xg_32, xg_40, xg_41, xg_42, xg_48, xg_57, xg_59, xg_64, xg_97, xg_100, xg_122, xg_126, xg_128, xg_1000, xg_9999, xe_1, xe_2, xe_3, xe_4, xe_5, xe_6, xe_7, xe_8, xe_9, xe_10, xe_12, xe_20, xe_30, xe_32, xe_40, xe_41, xe_42, xe_48, xe_57, xe_59, xe_64, xe_97, xe_100, xe_122, xe_126, xe_128, xe_1000, xe_9999, true_implies, false_implies, not_true_eq_false, not_false_eq_true, and_true, true_and, forall_const, imp_self, lc_eq, implies_true, vin, Bool.true_eq_false, Bool.false_eq_true, false_and, and_false, or_false, false_or, or_true, true_or]
      refine ih _ ((H.ul _ rfl).ul _ rfl) ((G.ul _ rfl).ul _ rfl) (fun j hj => ?_)
      simp only [ul_app]
      by_cases e : j = i
      · simp [e]
      · have := Z j (by omega)
        simp [e, this]
    · refine vc_X4_renew_80 _ _ mi ml ?_
      simp (disch := omega) only [Nat.lt_irrefl, nI_ltI, nI_eq, nI_clamp, nI_1, xl_0, xg_0, xe_0, xe_m1, nI_0, xl_1, xl_2, xl_3, xl_4, xl_5, xl_6, xl_7, xl_8, xl_9, xl_10, xl_12, xl_20, xl_30, xl_32, xl_40, xl_41, xl_42, xl_48, xl_57, xl_59, xl_64, xl_97, xl_100, xl_122, xl_126, xl_128, xl_1000, xl_9999, xg_1, xg_2, xg_3, xg_4, xg_5, xg_6, xg_7, xg_8, xg_9, xg_10, xg_12, xg_20, xg_30, xg_32, xg_40, xg_41, xg_42, xg_48, xg_57, xg_59, xg_64, xg_97, xg_100, xg_122, xg_126, xg_128, xg_1000, xg_9999, xe_1, xe_2, xe_3, xe_4, xe_5, xe_6, xe_7, xe_8, xe_9, xe_10, xe_12, xe_20, xe_30, xe_32, xe_40, xe_41, xe_42, xe_48, xe_57, xe_59, xe_64, xe_97, xe_100, xe_122, xe_126, xe_128, xe_1000, xe_9999, true_implies, false_implies, not_true_eq_false, not_false_eq_true, and_true, true_and, forall_const, imp_self, lc_eq, implies_true, vin, Bool.true_eq_false, Bool.false_eq_true, false_and, and_false, or_false, false_or, or_true, true_or]
      refine hQ _ _ ⟨H, G, fun s hs => ?_⟩
      have := Z (s / 64) (by omega)
      rw [this.1, this.2, b6_0]
      exact ⟨fun h => (by cases h), fun _ => rfl⟩
  -- who touches whom
  have L2 : ∀ mi ml, eqP ti tl mi ml → gF ti (ldr ti tl (nW ti)) mi ml → (∀ w, w < nW ti → mi 26 w = ofG ti tl w) → W_X4_renew_53 (cs ro (d + 5)) ro Q (cSeen ti) 0 mi ml := by
    intro mi ml H F D
    refine up0 (n := nG ti tl) (F := fun i => ∀ mi, eqP ti tl mi ml → gF ti (ldr ti tl (nW ti)) mi ml → (∀ w, w < nW ti → mi 26 w = ofG ti tl w) → (∀ g, g < i → ∀ h, b3 (mi 30 g) h = pB (h < nG ti tl ∧ touP ti tl (led ti tl g) (led ti tl h))) → W_X4_renew_53 (cs ro (d + 5)) ro Q (cSeen ti) (nI i) mi ml) (fun i hi ih mi H F D Z => ?_) (fun mi H F D Z => ?_) mi H F D (fun j hj => absurd hj (Nat.not_lt_zero j))
    · refine vc_X4_renew_53 _ _ mi ml ?_
      have q3 : mi 25 4 = nI (nG ti tl) := F.1
      obtain ⟨r, s1, h1⟩ := s_touchedBy (ro := ro) (d := d + 1) O H F hi
      simp (disch := omega) only [q3, hi, nI_ltI, nI_eq, nI_clamp, nI_1, xl_0, xg_0, xe_0, xe_m1, nI_0, xl_1, xl_2, xl_3, xl_4, xl_5, xl_6, xl_7, xl_8, xl_9, xl_10, xl_12, xl_20, xl_30, xl_32, xl_40, xl_41, xl_42, xl_48, xl_57, xl_59, xl_64, xl_97, xl_100, xl_122, xl_126, xl_128, xl_1000, xl_9999, xg_1, xg_2, xg_3, xg_4, xg_5, xg_6, xg_7, xg_8, xg_9, xg_10, xg_12, xg_20, xg_30, xg_32, xg_40, xg_41, xg_42, xg_48, xg_57, xg_59, xg_64, xg_97, xg_100, xg_122, xg_126, xg_128, xg_1000, xg_9999, xe_1, xe_2, xe_3, xe_4, xe_5, xe_6, xe_7, xe_8, xe_9, xe_10, xe_12, xe_20, xe_30, xe_32, xe_40, xe_41, xe_42, xe_48, xe_57, xe_59, xe_64, xe_97, xe_100, xe_122, xe_126, xe_128, xe_1000, xe_9999, true_implies, false_implies, not_true_eq_false, not_false_eq_true, and_true, true_and, forall_const, imp_self, lc_eq, implies_true, vin, Bool.true_eq_false, Bool.false_eq_true, false_and, and_false, or_false, false_or, or_true, true_or]
      refine ⟨_, _, _, s1, ?_⟩
      refine ih _ (H.ui _ rfl) (F.ui _ rfl) (fun w hw => ?_) (fun g hg h => ?_)
      · rw [ui_app, if_neg (by decide)]; exact D w hw
      · rw [ui_app, if_pos rfl]
        by_cases e : g = i
        · rw [if_pos e, e]; exact h1 h
        · rw [if_neg e]; exact Z g (by omega) h
    · refine vc_X4_renew_53 _ _ mi ml ?_
      have q3 : mi 25 4 = nI (nG ti tl) := F.1
      simp (disch := omega) only [q3, Nat.lt_irrefl, nI_ltI, nI_eq, nI_clamp, nI_1, xl_0, xg_0, xe_0, xe_m1, nI_0, xl_1, xl_2, xl_3, xl_4, xl_5, xl_6, xl_7, xl_8, xl_9, xl_10, xl_12, xl_20, xl_30, xl_32, xl_40, xl_41, xl_42, xl_48, xl_57, xl_59, xl_64, xl_97, xl_100, xl_122, xl_126, xl_128, xl_1000, xl_9999, xg_1, xg_2, xg_3, xg_4, xg_5, xg_6, xg_7, xg_8, xg_9, xg_10, xg_12, xg_20, xg_30, xg_32, xg_40, xg_41, xg_42, xg_48, xg_57, xg_59, xg_64, xg_97, xg_100, xg_122, xg_126, xg_128, xg_1000, xg_9999, xe_1, xe_2, xe_3, xe_4, xe_5, xe_6, xe_7, xe_8, xe_9, xe_10, xe_12, xe_20, xe_30, xe_32, xe_40, xe_41, xe_42, xe_48, xe_57, xe_59, xe_64, xe_97, xe_100, xe_122, xe_126, xe_128, xe_1000, xe_9999, true_implies, false_implies, not_true_eq_false, not_false_eq_true, and_true, true_and, forall_const, imp_self, lc_eq, implies_true, vin, Bool.true_eq_false, Bool.false_eq_true, false_and, and_false, or_false, false_or, or_true, true_or]
      exact L3 mi ml H ⟨F, D, Z⟩
  refine up0 (n := nW ti) (F := fun i => ∀ mi ml, eqP ti tl mi ml → gF ti (ldr ti tl i) mi ml → (∀ w, w < i → mi 26 w = ofG ti tl w) → W_X4_renew_7 (cs ro (d + 5)) ro Q (cSeen ti) (nI i) mi ml) (fun i hi ih mi ml H F D => ?_) (fun mi ml H F D => ?_) _ _ (H.ui 0 rfl) ⟨by rw [ui_app]; rfl, fun g hg => absurd hg (Nat.not_lt_zero g), fun g hg => absurd hg (Nat.not_lt_zero g), fun g hg => absurd hg (Nat.not_lt_zero g)⟩ (fun w hw => absurd hw (Nat.not_lt_zero w))
  · refine vc_X4_renew_7 _ _ mi ml ?_
    simp (disch := omega) only [H.e125, O.W, hi, nI_ltI, nI_eq, nI_clamp, nI_1, xl_0, xg_0, xe_0, xe_m1, nI_0, xl_1, xl_2, xl_3, xl_4, xl_5, xl_6, xl_7, xl_8, xl_9, xl_10, xl_12, xl_20, xl_30, xl_32, xl_40, xl_41, xl_42, xl_48, xl_57, xl_59, xl_64, xl_97, xl_100, xl_122, xl_126, xl_128, xl_1000, xl_9999, xg_1, xg_2, xg_3, xg_4, xg_5, xg_6, xg_7, xg_8, xg_9, xg_10, xg_12, xg_20, xg_30, xg_32, xg_40, xg_41, xg_42, xg_48, xg_57, xg_59, xg_64, xg_97, xg_100, xg_122, xg_126, xg_128, xg_1000, xg_9999, xe_1, xe_2, xe_3, xe_4, xe_5, xe_6, xe_7, xe_8, xe_9, xe_10, xe_12, xe_20, xe_30, xe_32, xe_40, xe_41, xe_42, xe_48, xe_57, xe_59, xe_64, xe_97, xe_100, xe_122, xe_126, xe_128, xe_1000, xe_9999, true_implies, false_implies, not_true_eq_false, not_false_eq_true, and_true, true_and, forall_const, imp_self, lc_eq, implies_true, vin, Bool.true_eq_false, Bool.false_eq_true, false_and, and_false, or_false, false_or, or_true, true_or]
    refine ⟨_, _, _, s_isSeen H (by omega), ?_⟩
    rw [pI_e0]
    have hD : ∀ (mi' : cM1) (v : Int32), mi' 26 = mi 26 → v = ofG ti tl i → ∀ w, w < i + 1 → ab_ui mi' 26 i v 26 w = ofG ti tl w := fun mi' v e hv w hw => by
      rw [ui_app, if_pos rfl]
      by_cases e2 : w = i
      · rw [if_pos e2, e2]; exact hv
      · rw [if_neg e2, e]; exact D w (by omega)
    refine ⟨fun c => ?_, fun c => ?_⟩
    · refine ih _ _ (H.ui _ rfl) (by rw [ldr_last ti tl c]; exact F.ui _ rfl) (hD mi _ rfl (by unfold ofG; rw [pB_f.2 c]; rfl))
    · have c' := Classical.not_not.1 c
      obtain ⟨mi', ml', s1, H1, F1, e1⟩ := s_join (ro := ro) (d := d) O H hi c' F
      refine ⟨_, _, _, s1, ih _ _ (H1.ui _ rfl) (F1.ui _ rfl) (hD mi' _ e1 (ofG_ldr c').symm)⟩
  · refine vc_X4_renew_7 _ _ mi ml ?_
    simp (disch := omega) only [H.e125, O.W, Nat.lt_irrefl, nI_ltI, nI_eq, nI_clamp, nI_1, xl_0, xg_0, xe_0, xe_m1, nI_0, xl_1, xl_2, xl_3, xl_4, xl_5, xl_6, xl_7, xl_8, xl_9, xl_10, xl_12, xl_20, xl_30, xl_32, xl_40, xl_41, xl_42, xl_48, xl_57, xl_59, xl_64, xl_97, xl_100, xl_122, xl_126, xl_128, xl_1000, xl_9999, xg_1, xg_2, xg_3, xg_4, xg_5, xg_6, xg_7, xg_8, xg_9, xg_10, xg_12, xg_20, xg_30, xg_32, xg_40, xg_41, xg_42, xg_48, xg_57, xg_59, xg_64, xg_97, xg_100, xg_122, xg_126, xg_128, xg_1000, xg_9999, xe_1, xe_2, xe_3, xe_4, xe_5, xe_6, xe_7, xe_8, xe_9, xe_10, xe_12, xe_20, xe_30, xe_32, xe_40, xe_41, xe_42, xe_48, xe_57, xe_59, xe_64, xe_97, xe_100, xe_122, xe_126, xe_128, xe_1000, xe_9999, true_implies, false_implies, not_true_eq_false, not_false_eq_true, and_true, true_and, forall_const, imp_self, lc_eq, implies_true, vin, Bool.true_eq_false, Bool.false_eq_true, false_and, and_false, or_false, false_or, or_true, true_or]
    exact L2 mi ml H F D
theorem s_settle (O : okT ti) (H : eqP ti tl mi ml) (hc : mi 0 12 = 0 → gP ti tl mi ml ∧ kP ti tl ml) : ∃ mi' ml', cS ro (d + 7) 138 [.ref 0] mi ml none mi' ml' ∧ cP ti tl mi' ml' := by
  by_cases c : mi 0 12 = 0
  · refine ⟨mi, ml, ab_sem_q rfl rfl (fun Q hQ => vc_X11_settle_0 mi ml ⟨fun _ => hQ, fun h => absurd c h⟩), H, hc c⟩
  · refine ab_ex_q rfl rfl (fun Q hQ => vc_X11_settle_0 mi ml ⟨fun h => absurd h c, fun _ => ?_⟩)
    have e : cSeen mi = cSeen ti := H.qcSeen
    obtain ⟨mi', ml', s1, C⟩ := s_renew (ro := ro) (d := d) O H
    exact ⟨_, _, _, e ▸ s_seen, _, _, s1, hQ _ _ (C.ui _ rfl)⟩
theorem s_wishesIn (O : okT ti) (C : cP ti tl mi ml) (x : Int32) : cS ro (d + 1) 31 [.ref 25, .int x] mi ml (some (.int (nI (pcn (fun w => pB (ofG ti tl w = x)) (nW ti))))) mi ml := by
  have hW := O.W2
  have H := C.1
  refine ab_sem_q rfl rfl (fun Q hQ => vc_X4_wishesIn_0 _ mi ml ?_)
  refine up0 (n := nW ti) (F := fun i => W_X4_wishesIn_4 (cs ro d) ro Q x (nI (pcn (fun w => pB (ofG ti tl w = x)) i)) (nI i) mi ml) (fun i hi ih => ?_) ?_
  · refine vc_X4_wishesIn_4 _ _ _ mi ml ?_
    simp (disch := omega) only [H.e125, O.W, hi, C.2.1.2.1 i hi, nI_ltI, nI_eq, nI_clamp, nI_1, xl_0, xg_0, xe_0, xe_m1, nI_0, xl_1, xl_2, xl_3, xl_4, xl_5, xl_6, xl_7, xl_8, xl_9, xl_10, xl_12, xl_20, xl_30, xl_32, xl_40, xl_41, xl_42, xl_48, xl_57, xl_59, xl_64, xl_97, xl_100, xl_122, xl_126, xl_128, xl_1000, xl_9999, xg_1, xg_2, xg_3, xg_4, xg_5, xg_6, xg_7, xg_8, xg_9, xg_10, xg_12, xg_20, xg_30, xg_32, xg_40, xg_41, xg_42, xg_48, xg_57, xg_59, xg_64, xg_97, xg_100, xg_122, xg_126, xg_128, xg_1000, xg_9999, xe_1, xe_2, xe_3, xe_4, xe_5, xe_6, xe_7, xe_8, xe_9, xe_10, xe_12, xe_20, xe_30, xe_32, xe_40, xe_41, xe_42, xe_48, xe_57, xe_59, xe_64, xe_97, xe_100, xe_122, xe_126, xe_128, xe_1000, xe_9999, true_implies, false_implies, not_true_eq_false, not_false_eq_true, and_true, true_and, forall_const, imp_self, lc_eq, implies_true, vin, Bool.true_eq_false, Bool.false_eq_true, false_and, and_false, or_false, false_or, or_true, true_or]
    refine ⟨fun c => ?_, fun c => ?_⟩
    · rw [pcn_s1 (f := fun w => pB (ofG ti tl w = x)) (n := i) (pB_iff.2 c)]; exact ih
    · rw [pcn_s0 (f := fun w => pB (ofG ti tl w = x)) (n := i) (pB_f.2 c)]; exact ih
  · refine vc_X4_wishesIn_4 _ _ _ mi ml ?_
    simp (disch := omega) only [H.e125, O.W, Nat.lt_irrefl, nI_ltI, nI_eq, nI_clamp, nI_1, xl_0, xg_0, xe_0, xe_m1, nI_0, xl_1, xl_2, xl_3, xl_4, xl_5, xl_6, xl_7, xl_8, xl_9, xl_10, xl_12, xl_20, xl_30, xl_32, xl_40, xl_41, xl_42, xl_48, xl_57, xl_59, xl_64, xl_97, xl_100, xl_122, xl_126, xl_128, xl_1000, xl_9999, xg_1, xg_2, xg_3, xg_4, xg_5, xg_6, xg_7, xg_8, xg_9, xg_10, xg_12, xg_20, xg_30, xg_32, xg_40, xg_41, xg_42, xg_48, xg_57, xg_59, xg_64, xg_97, xg_100, xg_122, xg_126, xg_128, xg_1000, xg_9999, xe_1, xe_2, xe_3, xe_4, xe_5, xe_6, xe_7, xe_8, xe_9, xe_10, xe_12, xe_20, xe_30, xe_32, xe_40, xe_41, xe_42, xe_48, xe_57, xe_59, xe_64, xe_97, xe_100, xe_122, xe_126, xe_128, xe_1000, xe_9999, true_implies, false_implies, not_true_eq_false, not_false_eq_true, and_true, true_and, forall_const, imp_self, lc_eq, implies_true, vin, Bool.true_eq_false, Bool.false_eq_true, false_and, and_false, or_false, false_or, or_true, true_or]
    exact hQ
theorem cut_12 (O : okT ti) {w p : Nat} (hw : w < nW ti) (h : cutP ti w p) : p < nL ti := by
  obtain ⟨_, ht, _⟩ := O.w w hw
  have hL := O.L2
  rcases ht with ⟨h3, _⟩ | ⟨_, l, hl, ht⟩
  · rcases h.1 with c | c <;> rw [h3] at c <;> exact absurd c (by decide)
  · rw [h.2, ht, nI_clamp (by omega)]; exact hl
/-- a wish more -/
theorem LK_add (O : okT ti) {K K' : Nat → Prop} {w : Nat} (hw : w < nW ti) (hK : ∀ x, K' x ↔ K x ∨ x = w) (p : Nat) : LK ti K' p = ((LK ti K p && !pB (cutP ti w p)) || pB (filP ti w p)) := by
  have hL := O.L2
  unfold LK
  rw [eq_comm]
  apply pB_eq
  rw [Bool.or_eq_true, Bool.and_eq_true, Bool.not_eq_true', pB_f, pB_iff, pB_iff]
  constructor
  · rintro (⟨⟨h1, h2⟩ | ⟨x, h1, h2, h3⟩, h4⟩ | h)
    · refine Or.inl ⟨h1, fun ⟨x, q1, q2, q3⟩ => ?_⟩
      rcases (hK x).1 q2 with q | q
      · exact h2 ⟨x, q1, q, q3⟩
      · rw [q] at q3; exact h4 q3
    · exact Or.inr ⟨x, h1, (hK x).2 (Or.inl h2), h3⟩
    · exact Or.inr ⟨w, hw, (hK w).2 (Or.inr rfl), h⟩
  · rintro (⟨h1, h2⟩ | ⟨x, h1, h2, h3⟩)
    · exact Or.inl ⟨Or.inl ⟨h1, fun ⟨x, q1, q2, q3⟩ => h2 ⟨x, q1, (hK x).2 (Or.inl q2), q3⟩⟩, fun q => h2 ⟨w, hw, (hK w).2 (Or.inr rfl), q⟩⟩
    · rcases (hK x).1 h2 with q | q
      · refine Or.inl ⟨Or.inr ⟨x, h1, q, h3⟩, fun q => ?_⟩
        have := cut_12 O hw q
        have := h3.2
        omega
      · rw [q] at h3; exact Or.inr h3
theorem LK_congr {K K' : Nat → Prop} (h : ∀ w, w < nW ti → (K w ↔ K' w)) : LK ti K = LK ti K' := by
  funext p
  unfold LK
  apply pB_congr
  constructor
  · rintro (⟨h1, h2⟩ | ⟨x, h1, h2, h3⟩)
    · exact Or.inl ⟨h1, fun ⟨x, q1, q2, q3⟩ => h2 ⟨x, q1, (h x q1).2 q2, q3⟩⟩
    · exact Or.inr ⟨x, h1, (h x h1).1 h2, h3⟩
  · rintro (⟨h1, h2⟩ | ⟨x, h1, h2, h3⟩)
    · exact Or.inl ⟨h1, fun ⟨x, q1, q2, q3⟩ => h2 ⟨x, q1, (h x q1).1 q2, q3⟩⟩
    · exact Or.inr ⟨x, h1, (h x h1).2 h2, h3⟩
theorem LK_none (p : Nat) {K : Nat → Prop} (h : ∀ w, ¬ K w) : LK ti K p = decide (p < nL ti) := by
  unfold LK
  rw [eq_comm]
  apply pB_eq
  rw [decide_eq_true_iff]
  constructor
  · exact fun q => Or.inl ⟨q, fun ⟨x, _, q2, _⟩ => h x q2⟩
  · rintro (⟨h1, _⟩ | ⟨x, _, q, _⟩)
    · exact h1
    · exact absurd q (h x)
def gKn (ti : cM1) (tl : cM2) (S : Nat → Bool) (i w : Nat) : Prop := ∃ g, g < i ∧ S g = true ∧ led ti tl g = w
theorem b3_sh0 {x : Int32} {k : Nat} (hk : k < 32) (h : x >>> (nI k &&& 31) = 0) {i : Nat} (hi : k ≤ i) : ¬ b3 x i = true := by
  rw [b3_done hk h hi]; decide
set_option maxHeartbeats 1000000 in
theorem s_lawBy (O : okT ti) (C : hP ti tl mi ml) (x : Int32) : ∃ r, cS ro (d + 2) 32 [.ref 25, .int x] mi ml (some (.long r)) mi ml ∧ b6 r = lawS ti tl (b3 x) := by
  have hW := O.W2
  have hG := nG_le ti tl
  have H := C.1
  obtain ⟨r0, s0, h0⟩ := s_wholeT (ro := ro) (d := d) O H
  have key : ∃ r mi' ml', ab_sem ro ab_mt (d + 2) 32 [.ref 25, .int x] (ab_G mi ml) (some (.long r)) (ab_G mi' ml') ∧ (b6 r = lawS ti tl (b3 x) ∧ mi' = mi ∧ ml' = ml) := by
    refine ab_el_q rfl rfl (fun Q hQ => vc_X4_lawBy_0 _ mi ml ⟨_, _, _, s0, ?_⟩)
    refine up0 (n := nG ti tl) (F := fun i => ∀ r, b6 r = LK ti (gKn ti tl (b3 x) i) → W_X4_lawBy_11 (cs ro (d + 1)) ro Q x r (nI i) mi ml) (fun i hi ih r hr => ?_) (fun r hr => ?_) r0 (funext (fun p => by rw [h0, LK_none]; rintro w ⟨g, hg, _⟩; exact absurd hg (Nat.not_lt_zero g)))
    · refine vc_X4_lawBy_11 _ _ _ mi ml ?_
      simp (disch := omega) only [C.2.G, hi, b3_a0, b3_a1, nI_ltI, nI_eq, nI_clamp, nI_1, xl_0, xg_0, xe_0, xe_m1, nI_0, xl_1, xl_2, xl_3, xl_4, xl_5, xl_6, xl_7, xl_8, xl_9, xl_10, xl_12, xl_20, xl_30, xl_32, xl_40, xl_41, xl_42, xl_48, xl_57, xl_59, xl_64, xl_97, xl_100, xl_122, xl_126, xl_128, xl_1000, xl_9999, xg_1, xg_2, xg_3, xg_4, xg_5, xg_6, xg_7, xg_8, xg_9, xg_10, xg_12, xg_20, xg_30, xg_32, xg_40, xg_41, xg_42, xg_48, xg_57, xg_59, xg_64, xg_97, xg_100, xg_122, xg_126, xg_128, xg_1000, xg_9999, xe_1, xe_2, xe_3, xe_4, xe_5, xe_6, xe_7, xe_8, xe_9, xe_10, xe_12, xe_20, xe_30, xe_32, xe_40, xe_41, xe_42, xe_48, xe_57, xe_59, xe_64, xe_97, xe_100, xe_122, xe_126, xe_128, xe_1000, xe_9999, true_implies, false_implies, not_true_eq_false, not_false_eq_true, and_true, true_and, forall_const, imp_self, lc_eq, implies_true, vin, Bool.true_eq_false, Bool.false_eq_true, false_and, and_false, or_false, false_or, or_true, true_or]
      refine ⟨fun c => hQ _ _ _ ⟨?_, rfl, rfl⟩, fun c => ⟨fun c2 => ih _ ?_, fun c2 => ih _ ?_⟩⟩
      · rw [hr]
        apply LK_congr
        intro w _
        constructor
        · rintro ⟨g, q1, q2, q3⟩; exact ⟨g, by omega, q2, q3⟩
        · rintro ⟨g, q1, q2, q3⟩
          refine ⟨g, ?_, q2, q3⟩
          by_cases q : g < i
          · exact q
          · exact absurd q2 (b3_sh0 (by omega) c (by omega))
      · rw [hr]
        apply LK_congr
        intro w _
        constructor
        · rintro ⟨g, q1, q2, q3⟩; exact ⟨g, by omega, q2, q3⟩
        · rintro ⟨g, q1, q2, q3⟩
          refine ⟨g, ?_, q2, q3⟩
          rcases Nat.lt_or_eq_of_le (Nat.le_of_lt_succ q1) with h | h
          · exact h
          · rw [h, c2] at q2; cases q2
      · funext p
        rw [b6_put, hr, C.2.c hi, C.2.l hi, ← LK_add O (led_lt ti tl hi).1]
        intro w
        have c3 : b3 x i = true := by simpa using c2
        constructor
        · rintro ⟨g, q1, q2, q3⟩
          rcases Nat.lt_or_eq_of_le (Nat.le_of_lt_succ q1) with h | h
          · exact Or.inl ⟨g, h, q2, q3⟩
          · rw [h] at q3; exact Or.inr q3.symm
        · rintro (⟨g, q1, q2, q3⟩ | q)
          · exact ⟨g, by omega, q2, q3⟩
          · exact ⟨i, by omega, c3, q.symm⟩
    · refine vc_X4_lawBy_11 _ _ _ mi ml ?_
      simp (disch := omega) only [C.2.G, Nat.lt_irrefl, nI_ltI, nI_eq, nI_clamp, nI_1, xl_0, xg_0, xe_0, xe_m1, nI_0, xl_1, xl_2, xl_3, xl_4, xl_5, xl_6, xl_7, xl_8, xl_9, xl_10, xl_12, xl_20, xl_30, xl_32, xl_40, xl_41, xl_42, xl_48, xl_57, xl_59, xl_64, xl_97, xl_100, xl_122, xl_126, xl_128, xl_1000, xl_9999, xg_1, xg_2, xg_3, xg_4, xg_5, xg_6, xg_7, xg_8, xg_9, xg_10, xg_12, xg_20, xg_30, xg_32, xg_40, xg_41, xg_42, xg_48, xg_57, xg_59, xg_64, xg_97, xg_100, xg_122, xg_126, xg_128, xg_1000, xg_9999, xe_1, xe_2, xe_3, xe_4, xe_5, xe_6, xe_7, xe_8, xe_9, xe_10, xe_12, xe_20, xe_30, xe_32, xe_40, xe_41, xe_42, xe_48, xe_57, xe_59, xe_64, xe_97, xe_100, xe_122, xe_126, xe_128, xe_1000, xe_9999, true_implies, false_implies, not_true_eq_false, not_false_eq_true, and_true, true_and, forall_const, imp_self, lc_eq, implies_true, vin, Bool.true_eq_false, Bool.false_eq_true, false_and, and_false, or_false, false_or, or_true, true_or]
      exact hQ _ _ _ ⟨hr, rfl, rfl⟩
  obtain ⟨r, mi', ml', h1, h2, rfl, rfl⟩ := key
  exact ⟨r, h1, h2⟩
theorem and0 {x y : Int32} : x &&& y = 0 ↔ ∀ i, i < 32 → ¬ (b3 x i = true ∧ b3 y i = true) := by
  rw [b3_zero]
  constructor
  · intro h i hi q
    have := h i hi
    rw [b3_and, q.1, q.2] at this
    cases this
  · intro h i hi
    have := h i hi
    rw [b3_and]
    revert this
    cases b3 x i <;> cases b3 y i <;> simp
set_option maxHeartbeats 1000000 in
theorem s_looksGoing (O : okT ti) (C : hP ti tl mi ml) (x : Int32) : ∃ mi' ml', cS ro (d + 4) 35 [.ref 25, .int x] mi ml (some (.int (pI (goeP ti tl (b3 x))))) mi' ml' ∧ hP ti tl mi' ml' ∧ mi' = mi ∧ ∀ k, ¬ k = 9 → ml' k = ml k := by
  have hW := O.W2
  have hG := nG_le ti tl
  refine ab_ex_q rfl rfl (fun Q hQ => vc_X4_looksGoing_0 _ mi ml ?_)
  have hend : ntS ti tl (b3 x) → (∃ (r3 : Int64) (mi1 : cM1) (ml2 : cM2), cs ro (d + 3) 32 [.ref 25, .int x] (ab_G mi ml) (some (.long r3)) (ab_G mi1 ml2) ∧ (∃ (r6 : Int32) (mi4 : cM1) (ml5 : cM2), cs ro (d + 3) 53 [.ref 9, .long r3] (ab_G mi1 ml2) (some (.int r6)) (ab_G mi4 ml5) ∧ (((r6 = 0) → (Q (some (.int 1)) (ab_G mi4 ml5))) ∧ (¬ (r6 = 0) → (Q (some (.int 0)) (ab_G mi4 ml5)))))) := by
    intro hn
    obtain ⟨r', s1', h1'⟩ := s_lawBy (ro := ro) (d := d + 1) O C x
    have s2' := s_quarrel (ro := ro) (d := d) (mi := mi) (ml := ml) r'
    rw [h1', C.1.qcQ] at s2'
    refine ⟨_, _, _, s1', _, _, _, s2', fun c => ?_, fun c => ?_⟩
    · rw [pI_1 ⟨hn, c⟩] at hQ
      exact hQ _ _ ⟨C.op _ _, rfl, fun k hk => op_x _ _ _ hk⟩
    · rw [pI_0 (fun q => c q.2)] at hQ
      exact hQ _ _ ⟨C.op _ _, rfl, fun k hk => op_x _ _ _ hk⟩
  refine up0 (n := nG ti tl) (F := fun i => (∀ g h, g < i → h < nG ti tl → b3 x g = true → b3 x h = true → ¬ touP ti tl (led ti tl g) (led ti tl h)) → W_X4_looksGoing_2 (cs ro (d + 3)) ro Q x (nI i) mi ml) (fun i hi ih hno => ?_) (fun hno => ?_) (fun g h hg => absurd hg (Nat.not_lt_zero g))
  · refine vc_X4_looksGoing_2 _ _ mi ml ?_
    simp (disch := omega) only [C.2.G, hi, b3_a0, b3_a1, nI_ltI, nI_eq, nI_clamp, nI_1, xl_0, xg_0, xe_0, xe_m1, nI_0, xl_1, xl_2, xl_3, xl_4, xl_5, xl_6, xl_7, xl_8, xl_9, xl_10, xl_12, xl_20, xl_30, xl_32, xl_40, xl_41, xl_42, xl_48, xl_57, xl_59, xl_64, xl_97, xl_100, xl_122, xl_126, xl_128, xl_1000, xl_9999, xg_1, xg_2, xg_3, xg_4, xg_5, xg_6, xg_7, xg_8, xg_9, xg_10, xg_12, xg_20, xg_30, xg_32, xg_40, xg_41, xg_42, xg_48, xg_57, xg_59, xg_64, xg_97, xg_100, xg_122, xg_126, xg_128, xg_1000, xg_9999, xe_1, xe_2, xe_3, xe_4, xe_5, xe_6, xe_7, xe_8, xe_9, xe_10, xe_12, xe_20, xe_30, xe_32, xe_40, xe_41, xe_42, xe_48, xe_57, xe_59, xe_64, xe_97, xe_100, xe_122, xe_126, xe_128, xe_1000, xe_9999, true_implies, false_implies, not_true_eq_false, not_false_eq_true, and_true, true_and, forall_const, imp_self, lc_eq, implies_true, vin, Bool.true_eq_false, Bool.false_eq_true, false_and, and_false, or_false, false_or, or_true, true_or]
    refine ⟨fun c => hend (fun g h q1 q2 q3 q4 => ?_), fun c => ⟨fun c2 => ih (fun g h q1 q2 q3 q4 => ?_), fun c2 => ⟨fun c3 => ih (fun g h q1 q2 q3 q4 => ?_), fun c3 => ?_⟩⟩⟩
    · by_cases q : g < i
      · exact hno g h q q2 q3 q4
      · exact absurd q3 (b3_sh0 (by omega) c (by omega))
    · rcases Nat.lt_or_eq_of_le (Nat.le_of_lt_succ q1) with q | q
      · exact hno g h q q2 q3 q4
      · rw [q, c2] at q3; cases q3
    · rcases Nat.lt_or_eq_of_le (Nat.le_of_lt_succ q1) with q | q
      · exact hno g h q q2 q3 q4
      · intro q5
        refine and0.1 c3 h (by omega) ⟨?_, q4⟩
        rw [C.2.2.2 i hi h, pB_iff]
        exact ⟨q2, q ▸ q5⟩
    · rw [pI_0] at hQ
      · exact hQ _ _ ⟨C, rfl, fun _ _ => rfl⟩
      · intro q
        apply c3
        rw [and0]
        rintro h hh ⟨q1, q2⟩
        rw [C.2.2.2 i hi h, pB_iff] at q1
        exact q.1 i h hi q1.1 (by simpa using c2) q2 q1.2
  · refine vc_X4_looksGoing_2 _ _ mi ml ?_
    simp (disch := omega) only [C.2.G, Nat.lt_irrefl, nI_ltI, nI_eq, nI_clamp, nI_1, xl_0, xg_0, xe_0, xe_m1, nI_0, xl_1, xl_2, xl_3, xl_4, xl_5, xl_6, xl_7, xl_8, xl_9, xl_10, xl_12, xl_20, xl_30, xl_32, xl_40, xl_41, xl_42, xl_48, xl_57, xl_59, xl_64, xl_97, xl_100, xl_122, xl_126, xl_128, xl_1000, xl_9999, xg_1, xg_2, xg_3, xg_4, xg_5, xg_6, xg_7, xg_8, xg_9, xg_10, xg_12, xg_20, xg_30, xg_32, xg_40, xg_41, xg_42, xg_48, xg_57, xg_59, xg_64, xg_97, xg_100, xg_122, xg_126, xg_128, xg_1000, xg_9999, xe_1, xe_2, xe_3, xe_4, xe_5, xe_6, xe_7, xe_8, xe_9, xe_10, xe_12, xe_20, xe_30, xe_32, xe_40, xe_41, xe_42, xe_48, xe_57, xe_59, xe_64, xe_97, xe_100, xe_122, xe_126, xe_128, xe_1000, xe_9999, true_implies, false_implies, not_true_eq_false, not_false_eq_true, and_true, true_and, forall_const, imp_self, lc_eq, implies_true, vin, Bool.true_eq_false, Bool.false_eq_true, false_and, and_false, or_false, false_or, or_true, true_or]
    exact hend (fun g h q1 q2 q3 q4 => hno g h q1 q2 q3 q4)
theorem bit_0 (x : Int64) {k : Nat} (hk : k < 64) : (x &&& ((1 : Int64) <<< ((nI k).toInt64 &&& 63)) = 0) = (b6 x k = false) := by
  apply propext
  rw [b6_zero]
  constructor
  · intro h
    have := h k hk
    rw [b6_and, b6_bit hk] at this
    simpa using this
  · intro h i hi
    rw [b6_and, b6_bit hk]
    by_cases e : i = k
    · rw [e, h]; rfl
    · simp [e]
theorem b6_orbit (x : Int64) {k : Nat} (hk : k < 64) (i : Nat) : b6 (x ||| ((1 : Int64) <<< ((nI k).toInt64 &&& 63))) i = (b6 x i || decide (i = k)) := by
  rw [b6_or, b6_bit hk]
theorem kP.of (G : kP ti tl ml) (h1 : ml' 31 = ml 31) (h2 : ml' 32 = ml 32) : kP ti tl ml' := by
  intro s hs
  rw [h1, h2]; exact G s hs
/-- a set more is known -/
theorem kP.add (G : kP ti tl ml) {s : Nat} (hs : s < 4096) (ml' : cM2) (h1 : ∀ j, ml' 31 j = if j = s / 64 then ml 31 j ||| ((1 : Int64) <<< ((nI (s % 64)).toInt64 &&& 63)) else ml 31 j)
    (h2 : ∀ j i, b6 (ml' 32 j) i = if j = s / 64 ∧ i = s % 64 then pB (goeP ti tl (b3 (nI s))) else b6 (ml 32 j) i) : kP ti tl ml' := by
  intro t ht
  rw [h1, h2]
  by_cases e : t = s
  · subst e
    rw [if_pos rfl, if_pos ⟨rfl, rfl⟩, b6_orbit _ (by omega)]
    simp
  · have hne : ¬ (t / 64 = s / 64 ∧ t % 64 = s % 64) := fun h => e (by omega)
    rw [if_neg hne]
    by_cases e1 : t / 64 = s / 64
    · have e2 : ¬ t % 64 = s % 64 := fun h => hne ⟨e1, h⟩
      rw [if_pos e1, b6_orbit _ (by omega)]
      simp only [e2, decide_false, Bool.or_false]
      exact G t ht
    · rw [if_neg e1]; exact G t ht
set_option maxHeartbeats 2000000 in
theorem s_goes (O : okT ti) (C : cP ti tl mi ml) {s : Nat} (hs : s < 2 ^ 30) : ∃ ml', cS ro (d + 5) 34 [.ref 25, .int (nI s)] mi ml (some (.int (pI (goeP ti tl (b3 (nI s)))))) mi ml' ∧ cP ti tl mi ml' ∧ ∀ k, ¬ k = 9 → ¬ k = 31 → ¬ k = 32 → ml' k = ml k := by
  have key : ∃ mi' ml', cS ro (d + 5) 34 [.ref 25, .int (nI s)] mi ml (some (.int (pI (goeP ti tl (b3 (nI s)))))) mi' ml' ∧ (cP ti tl mi' ml' ∧ mi' = mi ∧ ∀ k, ¬ k = 9 → ¬ k = 31 → ¬ k = 32 → ml' k = ml k) := by
    have hm : s % 64 < 64 := by omega
    refine ab_ex_q rfl rfl (fun Q hQ => vc_X4_goes_0 _ mi ml ?_)
    simp only [nI_d64 (show s < 2 ^ 31 by omega), nI_m64 (show s < 2 ^ 31 by omega)]
    by_cases hw : s / 64 < 64
    · have hs4 : s < 4096 := by omega
      have hk := C.2.2 s hs4
      simp (disch := omega) only [hw, bit_0, nI_ltI, nI_eq, nI_clamp, nI_1, xl_0, xg_0, xe_0, xe_m1, nI_0, xl_1, xl_2, xl_3, xl_4, xl_5, xl_6, xl_7, xl_8, xl_9, xl_10, xl_12, xl_20, xl_30, xl_32, xl_40, xl_41, xl_42, xl_48, xl_57, xl_59, xl_64, xl_97, xl_100, xl_122, xl_126, xl_128, xl_1000, xl_9999, xg_1, xg_2, xg_3, xg_4, xg_5, xg_6, xg_7, xg_8, xg_9, xg_10, xg_12, xg_20, xg_30, xg_32, xg_40, xg_41, xg_42, xg_48, xg_57, xg_59, xg_64, xg_97, xg_100, xg_122, xg_126, xg_128, xg_1000, xg_9999, xe_1, xe_2, xe_3, xe_4, xe_5, xe_6, xe_7, xe_8, xe_9, xe_10, xe_12, xe_20, xe_30, xe_32, xe_40, xe_41, xe_42, xe_48, xe_57, xe_59, xe_64, xe_97, xe_100, xe_122, xe_126, xe_128, xe_1000, xe_9999, true_implies, false_implies, not_true_eq_false, not_false_eq_true, and_true, true_and, forall_const, imp_self, lc_eq, implies_true, vin, Bool.true_eq_false, Bool.false_eq_true, false_and, and_false, or_false, false_or, or_true, true_or]
      refine ⟨fun c => ?_, fun c => ?_⟩
      · obtain ⟨mi', ml', s1, C1, rfl, hml⟩ := s_looksGoing (ro := ro) (d := d) O (mi := mi) (ml := ab_ul ml 31 (s / 64) (ml 31 (s / 64) ||| ((1 : Int64) <<< ((nI (s % 64)).toInt64 &&& 63)))) ⟨C.1.ul _ rfl, C.2.1.ul _ rfl⟩ (nI s)
        have e31 : ∀ j, ml' 31 j = if j = s / 64 then ml 31 j ||| ((1 : Int64) <<< ((nI (s % 64)).toInt64 &&& 63)) else ml 31 j := fun j => by
          rw [hml 31 (by decide), ul_app, if_pos rfl]
          by_cases e : j = s / 64
          · rw [if_pos e, if_pos e, e]
          · rw [if_neg e, if_neg e]
        have e32 : ml' 32 = ml 32 := by
          rw [hml 32 (by decide)]; funext j; rw [ul_app, if_neg (by decide)]
        have ek : ∀ k, ¬ k = 9 → ¬ k = 31 → ml' k = ml k := fun k h1 h2 => by
          rw [hml k h1]; funext j; rw [ul_app, if_neg h2]
        refine ⟨_, _, _, s1, ?_⟩
        rw [pI_e0]
        refine ⟨fun c2 => ?_, fun c2 => ?_⟩
        · rw [e32]
          rw [pI_0 c2] at hQ
          refine ⟨fun _ => hQ _ _ ⟨⟨C1.1, C1.2, C.2.2.add hs4 ml' e31 (fun j i => ?_)⟩, rfl, fun k h1 h2 h3 => ek k h1 h2⟩, fun h => absurd (hk.2 c) h⟩
          rw [e32]
          by_cases e : j = s / 64 ∧ i = s % 64
          · rw [if_pos e, e.1, e.2, hk.2 c, pB_f.2 c2]
          · rw [if_neg e]
        · have c2' := Classical.not_not.1 c2
          rw [pI_1 c2'] at hQ
          have e33 : ∀ j i, b6 (ab_ul ml' 32 (s / 64) (ml' 32 (s / 64) ||| ((1 : Int64) <<< ((nI (s % 64)).toInt64 &&& 63))) 32 j) i = if j = s / 64 ∧ i = s % 64 then pB (goeP ti tl (b3 (nI s))) else b6 (ml 32 j) i := fun j i => by
            rw [ul_app, if_pos rfl, e32]
            by_cases e1 : j = s / 64
            · rw [if_pos e1, b6_orbit _ hm, e1]
              by_cases e2 : i = s % 64
              · simp [e2, pB_iff.2 c2']
              · simp [e2]
            · rw [if_neg e1, if_neg (fun h => e1 h.1)]
          rw [e33, if_pos ⟨rfl, rfl⟩, pB_iff.2 c2']
          refine ⟨fun h => (by cases h), fun _ => hQ _ _ ⟨⟨C1.1.ul _ rfl, C1.2.ul _ rfl, C.2.2.add hs4 _ (fun j => ?_) e33⟩, rfl, fun k h1 h2 h3 => ?_⟩⟩
          · rw [ul_app, if_neg (by decide)]; exact e31 j
          · funext j; rw [ul_app, if_neg h3, ek k h1 h2]
      · have c' : b6 (ml 31 (s / 64)) (s % 64) = true := by simpa using c
        rw [hk.1 c', pB_f]
        refine ⟨fun c2 => ?_, fun c2 => ?_⟩
        · rw [pI_0 c2] at hQ; exact hQ _ _ ⟨C, rfl, fun _ _ _ _ => rfl⟩
        · rw [pI_1 (Classical.not_not.1 c2)] at hQ; exact hQ _ _ ⟨C, rfl, fun _ _ _ _ => rfl⟩
    · obtain ⟨mi', ml', s1, C1, rfl, hml⟩ := s_looksGoing (ro := ro) (d := d) O C.h (nI s)
      simp (disch := omega) only [hw, nI_ltI, nI_eq, nI_clamp, nI_1, xl_0, xg_0, xe_0, xe_m1, nI_0, xl_1, xl_2, xl_3, xl_4, xl_5, xl_6, xl_7, xl_8, xl_9, xl_10, xl_12, xl_20, xl_30, xl_32, xl_40, xl_41, xl_42, xl_48, xl_57, xl_59, xl_64, xl_97, xl_100, xl_122, xl_126, xl_128, xl_1000, xl_9999, xg_1, xg_2, xg_3, xg_4, xg_5, xg_6, xg_7, xg_8, xg_9, xg_10, xg_12, xg_20, xg_30, xg_32, xg_40, xg_41, xg_42, xg_48, xg_57, xg_59, xg_64, xg_97, xg_100, xg_122, xg_126, xg_128, xg_1000, xg_9999, xe_1, xe_2, xe_3, xe_4, xe_5, xe_6, xe_7, xe_8, xe_9, xe_10, xe_12, xe_20, xe_30, xe_32, xe_40, xe_41, xe_42, xe_48, xe_57, xe_59, xe_64, xe_97, xe_100, xe_122, xe_126, xe_128, xe_1000, xe_9999, true_implies, false_implies, not_true_eq_false, not_false_eq_true, and_true, true_and, forall_const, imp_self, lc_eq, implies_true, vin, Bool.true_eq_false, Bool.false_eq_true, false_and, and_false, or_false, false_or, or_true, true_or]
      exact ⟨_, _, _, s1, pI_or _, hQ _ _ ⟨⟨C1.1, C1.2, C.2.2.of (hml 31 (by decide)) (hml 32 (by decide))⟩, rfl, fun k h1 _ _ => hml k h1⟩⟩
  obtain ⟨mi', ml', h1, h2, rfl, h3⟩ := key
  exact ⟨ml', h1, h2, h3⟩
theorem s_clashOf (O : okT ti) (C : cP ti tl mi ml) {g h : Nat} (hg : g < nG ti tl) (hh : h < nG ti tl) : ∃ ml', cS ro (d + 4) 33 [.ref 25, .int (nI g), .int (nI h)] mi ml (some (.int (@ite _ (touP ti tl (led ti tl g) (led ti tl h)) (Classical.propDecidable _) 1 (cQ tl (lawS ti tl (fun i => decide (i = g) || decide (i = h))))))) mi ml' ∧ cP ti tl mi ml' ∧ ∀ k, ¬ k = 9 → ml' k = ml k := by
  have hW := O.W2
  have hG := nG_le ti tl
  by_cases c : touP ti tl (led ti tl g) (led ti tl h)
  · refine ⟨ml, ?_, C, fun _ _ => rfl⟩
    rw [if_pos c]
    refine ab_sem_q rfl rfl (fun Q hQ => vc_X4_clashOf_0 _ _ mi ml ?_)
    have hb : b3 (mi 30 g) h = true := by
      rw [C.2.1.2.2 g hg h]; exact pB_iff.2 ⟨hh, c⟩
    simp (disch := omega) only [b3_a0, b3_a1, hb, nI_ltI, nI_eq, nI_clamp, nI_1, xl_0, xg_0, xe_0, xe_m1, nI_0, xl_1, xl_2, xl_3, xl_4, xl_5, xl_6, xl_7, xl_8, xl_9, xl_10, xl_12, xl_20, xl_30, xl_32, xl_40, xl_41, xl_42, xl_48, xl_57, xl_59, xl_64, xl_97, xl_100, xl_122, xl_126, xl_128, xl_1000, xl_9999, xg_1, xg_2, xg_3, xg_4, xg_5, xg_6, xg_7, xg_8, xg_9, xg_10, xg_12, xg_20, xg_30, xg_32, xg_40, xg_41, xg_42, xg_48, xg_57, xg_59, xg_64, xg_97, xg_100, xg_122, xg_126, xg_128, xg_1000, xg_9999, xe_1, xe_2, xe_3, xe_4, xe_5, xe_6, xe_7, xe_8, xe_9, xe_10, xe_12, xe_20, xe_30, xe_32, xe_40, xe_41, xe_42, xe_48, xe_57, xe_59, xe_64, xe_97, xe_100, xe_122, xe_126, xe_128, xe_1000, xe_9999, true_implies, false_implies, not_true_eq_false, not_false_eq_true, and_true, true_and, forall_const, imp_self, lc_eq, implies_true, vin, Bool.true_eq_false, Bool.false_eq_true, false_and, and_false, or_false, false_or, or_true, true_or]
    exact hQ
  · obtain ⟨r, s1, h1⟩ := s_lawBy (ro := ro) (d := d + 1) O C.h (((1 : Int32) <<< (nI g &&& 31)) ||| ((1 : Int32) <<< (nI h &&& 31)))
    have s2 := s_quarrel (ro := ro) (d := d) (mi := mi) (ml := ml) r
    have e : b3 (((1 : Int32) <<< (nI g &&& 31)) ||| ((1 : Int32) <<< (nI h &&& 31))) = (fun i => decide (i = g) || decide (i = h)) := by
      funext i
      rw [b3_or, b3_bit (by omega), b3_bit (by omega)]
    rw [h1, C.1.qcQ, e] at s2
    refine ⟨op ml (oA ml (lawS ti tl fun i => decide (i = g) || decide (i = h))) (oB ml (lawS ti tl fun i => decide (i = g) || decide (i = h))), ?_, C.op _ _, fun k hk => op_x _ _ _ hk⟩
    rw [if_neg c]
    refine ab_sem_q rfl rfl (fun Q hQ => vc_X4_clashOf_0 _ _ mi ml ?_)
    have hb : b3 (mi 30 g) h = false := by
      rw [C.2.1.2.2 g hg h, pB_f]; exact fun q => c q.2
    simp (disch := omega) only [b3_a0, b3_a1, hb, nI_ltI, nI_eq, nI_clamp, nI_1, xl_0, xg_0, xe_0, xe_m1, nI_0, xl_1, xl_2, xl_3, xl_4, xl_5, xl_6, xl_7, xl_8, xl_9, xl_10, xl_12, xl_20, xl_30, xl_32, xl_40, xl_41, xl_42, xl_48, xl_57, xl_59, xl_64, xl_97, xl_100, xl_122, xl_126, xl_128, xl_1000, xl_9999, xg_1, xg_2, xg_3, xg_4, xg_5, xg_6, xg_7, xg_8, xg_9, xg_10, xg_12, xg_20, xg_30, xg_32, xg_40, xg_41, xg_42, xg_48, xg_57, xg_59, xg_64, xg_97, xg_100, xg_122, xg_126, xg_128, xg_1000, xg_9999, xe_1, xe_2, xe_3, xe_4, xe_5, xe_6, xe_7, xe_8, xe_9, xe_10, xe_12, xe_20, xe_30, xe_32, xe_40, xe_41, xe_42, xe_48, xe_57, xe_59, xe_64, xe_97, xe_100, xe_122, xe_126, xe_128, xe_1000, xe_9999, true_implies, false_implies, not_true_eq_false, not_false_eq_true, and_true, true_and, forall_const, imp_self, lc_eq, implies_true, vin, Bool.true_eq_false, Bool.false_eq_true, false_and, and_false, or_false, false_or, or_true, true_or]
    exact ⟨_, _, _, s1, _, _, _, s2, hQ⟩
end GB
