/-! Least sets. -/
def pre (f : Nat → List Nat) (i : Nat) : List Nat := (List.range i).flatMap f
theorem pre_s (f : Nat → List Nat) (i : Nat) : pre f (i + 1) = pre f i ++ f i := by
  unfold pre
  rw [List.range_succ, List.flatMap_append]; simp
theorem pre_nil {f : Nat → List Nat} : ∀ {i : Nat}, (∀ j, j < i → f j = []) → pre f i = []
  | 0, _ => rfl
  | i + 1, h => by rw [pre_s, pre_nil (fun j hj => h j (by omega)), h i (by omega)]; rfl
noncomputable def lif (P : Prop) (l : List Nat) : List Nat := @ite _ P (Classical.propDecidable P) l []
theorem lif_1 {P : Prop} {l : List Nat} (h : P) : lif P l = l := by unfold lif; exact if_pos h
theorem lif_0 {P : Prop} {l : List Nat} (h : ¬ P) : lif P l = [] := by unfold lif; exact if_neg h
noncomputable def alP1 (ti : cM1) (tl : cM2) (g : Nat) : Prop := goN ti tl (2 ^ g)
noncomputable def paP (ti : cM1) (tl : cM2) (g h : Nat) : Prop := alP1 ti tl g ∧ alP1 ti tl h ∧ goN ti tl (2 ^ g ||| 2 ^ h)
noncomputable def on1 (ti : cM1) (tl : cM2) (g : Nat) : List Nat := lif (¬ alP1 ti tl g) [2 ^ g]
noncomputable def on2 (ti : cM1) (tl : cM2) (g h : Nat) : List Nat := lif (g < h ∧ alP1 ti tl g ∧ alP1 ti tl h ∧ ¬ goN ti tl (2 ^ g ||| 2 ^ h)) [2 ^ g ||| 2 ^ h]
noncomputable def on3 (ti : cM1) (tl : cM2) (g h k : Nat) : List Nat := lif (h < k ∧ paP ti tl g k ∧ paP ti tl h k ∧ ¬ goN ti tl (2 ^ g ||| 2 ^ h ||| 2 ^ k)) [2 ^ g ||| 2 ^ h ||| 2 ^ k]
noncomputable def lsts (ti : cM1) (tl : cM2) (n : Nat) : List Nat := lif (goN ti tl 0) (if n = 1 then pre (on1 ti tl) (nG ti tl) else if n = 2 then pre (fun g => pre (on2 ti tl g) (nG ti tl)) (nG ti tl) else pre (fun g => pre (fun h => lif (g < h ∧ paP ti tl g h) (pre (on3 ti tl g h) (nG ti tl))) (nG ti tl)) (nG ti tl))
def mt (w : Int32) (z : Int32 × Int32) (s : Nat) : Int32 × Int32 := (z.1 + 1, if z.1 = w then nI s else z.2)
section LE
variable {ro : ab_E} {d : Nat} {ti mi : cM1} {tl ml : cM2} {w : Int32}
def mOK (w : Int32) (z : Int32 × Int32) (mi : cM1) : Prop := mi 38 3 = w ∧ mi 38 4 = z.1 ∧ mi 38 5 = z.2
theorem bit_n {g : Nat} (hg : g < 30) : (1 : Int32) <<< (nI g &&& 31) = nI (2 ^ g) := by
  have h2 : 2 ^ g < 2 ^ 30 := Nat.pow_lt_pow_right (by decide) hg
  apply b3_ext
  intro j hj
  rw [b3_bit (by omega), b3_nI (by omega), Nat.testBit_two_pow]
  exact decide_eq_decide.2 eq_comm
theorem p2lt {g : Nat} (hg : g < 30) : 2 ^ g < 2 ^ 30 := Nat.pow_lt_pow_right (by decide) hg
theorem s_meet {z : Int32 × Int32} (M : mOK w z mi) (s : Nat) : ∃ mi', cS ro (d + 1) 40 [.ref 38, .int (nI s)] mi ml none mi' ml ∧ mOK w (mt w z s) mi' ∧ ∀ k j, (¬ k = 38 ∨ j = 1) → mi' k j = mi k j := by
  obtain ⟨m3, m4, m5⟩ := M
  by_cases c : z.1 = w
  · refine ⟨ab_ui (ab_ui mi 38 5 (nI s)) 38 4 (z.1 + 1), ab_sem_q rfl rfl (fun Q hQ => vc_X5_meet_0 _ mi ml ?_), ?_, ?_⟩
    · rw [m3, m4]; exact ⟨fun _ => hQ, fun h => absurd c h⟩
    · unfold mt
      rw [if_pos c]
      refine ⟨?_, ?_, ?_⟩ <;> simp [ui_app, m3]
    · rintro k j (h | h)
      · simp [ui_app, h]
      · simp [ui_app, h]
  · refine ⟨ab_ui mi 38 4 (z.1 + 1), ab_sem_q rfl rfl (fun Q hQ => vc_X5_meet_0 _ mi ml ?_), ?_, ?_⟩
    · rw [m3, m4]; exact ⟨fun h => absurd h c, fun _ => hQ⟩
    · unfold mt
      rw [if_neg c]
      refine ⟨?_, ?_, ?_⟩ <;> simp [ui_app, m3, m5]
    · rintro k j (h | h)
      · simp [ui_app, h]
      · simp [ui_app, h]
theorem eqP.of {mi' : cM1} {ml' : cM2} (H : eqP ti tl mi ml) (hi : ∀ k j, lsI k j = true → mi' k j = mi k j) (hl : ∀ k j, lsL k j = true → ml' k j = ml k j) : eqP ti tl mi' ml' := ⟨fun k j h => (hi k j h).trans (H.1 k j h), fun k j h => (hl k j h).trans (H.2 k j h)⟩
/-- only cells that don't last have changed -/
theorem cP.ofi {mi' : cM1} (C : cP ti tl mi ml) {K : Nat} (hK : scI K 0 = false) (hK2 : scI K 1 = false) (hj : ∀ j, scI K j = scI K 0) (hi : ∀ k j, ¬ k = K → mi' k j = mi k j) : cP ti tl mi' ml := by
  have hk : ∀ k j, scI k j = true → ¬ k = K := fun k j h e => by rw [e, hj, hK] at h; cases h
  refine ⟨C.1.of (fun k j h => hi k j (hk k j (by unfold scI; rw [h]; rfl))) (fun _ _ _ => rfl), C.2.1.of (fun k j h => hi k j (hk k j (by unfold scI; rw [h]; cases lsI k j <;> rfl))) (fun _ _ _ => rfl), C.2.2⟩
/-- alone and partners -/
def aOK (ti : cM1) (tl : cM2) (mi : cM1) : Prop := ∀ g, g < nG ti tl → b3 (mi 38 1) g = pB (alP1 ti tl g)
theorem s_findAlone (O : okT ti) (C : cP ti tl mi ml) {z : Int32 × Int32} (M : mOK w z mi) : ∃ mi' ml', cS ro (d + 6) 38 [.ref 38] mi ml none mi' ml' ∧ cP ti tl mi' ml' ∧ mOK w z mi' ∧ aOK ti tl mi' := by
  have hW := O.W2
  have hG := nG_le ti tl
  refine ab_ex_q rfl rfl (fun Q hQ => vc_X5_findAlone_0 mi ml ?_)
  refine up0 (n := nG ti tl) (F := fun i => ∀ mi ml, cP ti tl mi ml → mOK w z mi → (∀ g, b3 (mi 38 1) g = pB (g < i ∧ alP1 ti tl g)) → W_X5_findAlone_7 (cs ro (d + 5)) ro Q (nI i) mi ml) (fun i hi ih mi ml C M A => ?_) (fun mi ml C M A => ?_) _ _ (C.ui _ rfl) ⟨by simp [ui_app, M.1], by simp [ui_app, M.2.1], by simp [ui_app, M.2.2]⟩ (fun g => ?_)
  · refine vc_X5_findAlone_7 _ mi ml ?_
    obtain ⟨ml', s1, C1, _⟩ := s_goes (ro := ro) (d := d) O C (s := 2 ^ i) (p2lt (by omega))
    simp (disch := omega) only [C.2.1.G, hi, nI_ltI, nI_eq, nI_clamp, nI_1, xl_0, xg_0, xe_0, xe_m1, nI_0, xl_1, xl_2, xl_3, xl_4, xl_5, xl_6, xl_7, xl_8, xl_9, xl_10, xl_12, xl_20, xl_30, xl_32, xl_40, xl_41, xl_42, xl_48, xl_57, xl_59, xl_64, xl_97, xl_100, xl_122, xl_126, xl_128, xl_1000, xl_9999, xg_1, xg_2, xg_3, xg_4, xg_5, xg_6, xg_7, xg_8, xg_9, xg_10, xg_12, xg_20, xg_30, xg_32, xg_40, xg_41, xg_42, xg_48, xg_57, xg_59, xg_64, xg_97, xg_100, xg_122, xg_126, xg_128, xg_1000, xg_9999, xe_1, xe_2, xe_3, xe_4, xe_5, xe_6, xe_7, xe_8, xe_9, xe_10, xe_12, xe_20, xe_30, xe_32, xe_40, xe_41, xe_42, xe_48, xe_57, xe_59, xe_64, xe_97, xe_100, xe_122, xe_126, xe_128, xe_1000, xe_9999, true_implies, false_implies, not_true_eq_false, not_false_eq_true, and_true, true_and, forall_const, imp_self, lc_eq, implies_true, vin, Bool.true_eq_false, Bool.false_eq_true, false_and, and_false, or_false, false_or, or_true, true_or]
    rw [bit_n (by omega)]
    refine ⟨_, _, _, s1, ?_⟩
    rw [pI_e0]
    refine ⟨fun c => ih _ _ C1 M (fun g => ?_), fun c => ih _ _ (C1.ui _ rfl) ⟨by simp [ui_app, M.1], by simp [ui_app, M.2.1], by simp [ui_app, M.2.2]⟩ (fun g => ?_)⟩
    · rw [A]
      apply pB_congr
      constructor
      · rintro ⟨h1, h2⟩; exact ⟨by omega, h2⟩
      · rintro ⟨h1, h2⟩
        refine ⟨?_, h2⟩
        rcases Nat.lt_or_eq_of_le (Nat.le_of_lt_succ h1) with h | h
        · exact h
        · rw [h] at h2; exact absurd h2 c
    · rw [ui_app, if_pos rfl, if_pos rfl, ← bit_n (by omega), b3_orbit _ (by omega), A]
      apply pB_eq
      rw [Bool.or_eq_true, pB_iff, decide_eq_true_iff]
      constructor
      · rintro (⟨h1, h2⟩ | h)
        · exact ⟨by omega, h2⟩
        · rw [h]; exact ⟨by omega, Classical.not_not.1 c⟩
      · rintro ⟨h1, h2⟩
        rcases Nat.lt_or_eq_of_le (Nat.le_of_lt_succ h1) with h | h
        · exact Or.inl ⟨h, h2⟩
        · exact Or.inr h
  · refine vc_X5_findAlone_7 _ mi ml ?_
    simp (disch := omega) only [C.2.1.G, Nat.lt_irrefl, nI_ltI, nI_eq, nI_clamp, nI_1, xl_0, xg_0, xe_0, xe_m1, nI_0, xl_1, xl_2, xl_3, xl_4, xl_5, xl_6, xl_7, xl_8, xl_9, xl_10, xl_12, xl_20, xl_30, xl_32, xl_40, xl_41, xl_42, xl_48, xl_57, xl_59, xl_64, xl_97, xl_100, xl_122, xl_126, xl_128, xl_1000, xl_9999, xg_1, xg_2, xg_3, xg_4, xg_5, xg_6, xg_7, xg_8, xg_9, xg_10, xg_12, xg_20, xg_30, xg_32, xg_40, xg_41, xg_42, xg_48, xg_57, xg_59, xg_64, xg_97, xg_100, xg_122, xg_126, xg_128, xg_1000, xg_9999, xe_1, xe_2, xe_3, xe_4, xe_5, xe_6, xe_7, xe_8, xe_9, xe_10, xe_12, xe_20, xe_30, xe_32, xe_40, xe_41, xe_42, xe_48, xe_57, xe_59, xe_64, xe_97, xe_100, xe_122, xe_126, xe_128, xe_1000, xe_9999, true_implies, false_implies, not_true_eq_false, not_false_eq_true, and_true, true_and, forall_const, imp_self, lc_eq, implies_true, vin, Bool.true_eq_false, Bool.false_eq_true, false_and, and_false, or_false, false_or, or_true, true_or]
    exact hQ _ _ ⟨C, M, fun g hg => by rw [A]; exact pB_congr ⟨fun h => h.2, fun h => ⟨hg, h⟩⟩⟩
  · rw [ui_app, if_pos rfl, if_pos rfl, b3_0, eq_comm, pB_f]
    rintro ⟨h1, _⟩
    exact absurd h1 (Nat.not_lt_zero _)
def rOK (ti : cM1) (tl : cM2) (mi : cM1) : Prop := ∀ g, g < nG ti tl → ∀ h, h < nG ti tl → g < h → b3 (mi 39 g) h = pB (paP ti tl g h)
theorem or_comm2 (a b : Nat) : a ||| b = b ||| a := Nat.or_comm a b
theorem paP_symm {g h : Nat} : paP ti tl g h ↔ paP ti tl h g := by
  unfold paP
  rw [or_comm2]
  exact ⟨fun q => ⟨q.2.1, q.1, q.2.2⟩, fun q => ⟨q.2.1, q.1, q.2.2⟩⟩
theorem pair_eq (x : Int32) {g h : Nat} (hg : g < 30) (hh : h < 30) : ((x &&& (((1 : Int32) <<< (nI g &&& 31)) ||| ((1 : Int32) <<< (nI h &&& 31)))) = (((1 : Int32) <<< (nI g &&& 31)) ||| ((1 : Int32) <<< (nI h &&& 31)))) = (b3 x g = true ∧ b3 x h = true) := by
  apply propext
  have hb : ∀ i, b3 (((1 : Int32) <<< (nI g &&& 31)) ||| ((1 : Int32) <<< (nI h &&& 31))) i = (decide (i = g) || decide (i = h)) := fun i => by
    rw [b3_or, b3_bit (by omega), b3_bit (by omega)]
  constructor
  · intro e
    have q : ∀ i, (b3 x i && (decide (i = g) || decide (i = h))) = (decide (i = g) || decide (i = h)) := fun i => by
      rw [← hb i, ← b3_and, e]
    have q1 := q g
    have q2 := q h
    simp at q1 q2
    exact ⟨q1, q2⟩
  · rintro ⟨h1, h2⟩
    apply b3_ext
    intro i _
    rw [b3_and, hb]
    by_cases e1 : i = g
    · simp [e1, h1]
    · by_cases e2 : i = h
      · simp [e2, h2]
      · simp [e1, e2]
theorem pair_n {g h : Nat} (hg : g < 30) (hh : h < 30) : ((1 : Int32) <<< (nI g &&& 31)) ||| ((1 : Int32) <<< (nI h &&& 31)) = nI (2 ^ g ||| 2 ^ h) := by
  rw [bit_n hg, or_bit (p2lt hg) hh]
set_option maxHeartbeats 1000000 in
theorem s_findPartners (O : okT ti) (C : cP ti tl mi ml) {z : Int32 × Int32} (M : mOK w z mi) (A : aOK ti tl mi) : ∃ mi' ml', cS ro (d + 6) 39 [.ref 38] mi ml none mi' ml' ∧ cP ti tl mi' ml' ∧ mOK w z mi' ∧ aOK ti tl mi' ∧ rOK ti tl mi' := by
  have hW := O.W2
  have hG := nG_le ti tl
  refine ab_ex_q rfl rfl (fun Q hQ => vc_X5_findPartners_0 mi ml ?_)
  have keep : ∀ (mi : cM1) (a : Nat) (v : Int32), mOK w z mi → aOK ti tl mi → mOK w z (ab_ui mi 39 a v) ∧ aOK ti tl (ab_ui mi 39 a v) := fun mi a v M A => by
    refine ⟨⟨?_, ?_, ?_⟩, fun g hg => ?_⟩
    · rw [ui_app, if_neg (by decide)]; exact M.1
    · rw [ui_app, if_neg (by decide)]; exact M.2.1
    · rw [ui_app, if_neg (by decide)]; exact M.2.2
    · rw [ui_app, if_neg (by decide)]; exact A g hg
  refine up0 (n := nG ti tl) (F := fun i => ∀ mi ml, cP ti tl mi ml → mOK w z mi → aOK ti tl mi → (∀ g, g < i → ∀ h, b3 (mi 39 g) h = pB (h < i ∧ g < h ∧ paP ti tl g h)) → W_X5_findPartners_2 (cs ro (d + 5)) ro Q (nI i) mi ml) (fun i hi ih mi ml C M A R => ?_) (fun mi ml C M A R => ?_) mi ml C M A (fun g hg => absurd hg (Nat.not_lt_zero g))
  · refine vc_X5_findPartners_2 _ mi ml ?_
    simp (disch := omega) only [C.2.1.G, hi, nI_ltI, nI_eq, nI_clamp, nI_1, xl_0, xg_0, xe_0, xe_m1, nI_0, xl_1, xl_2, xl_3, xl_4, xl_5, xl_6, xl_7, xl_8, xl_9, xl_10, xl_12, xl_20, xl_30, xl_32, xl_40, xl_41, xl_42, xl_48, xl_57, xl_59, xl_64, xl_97, xl_100, xl_122, xl_126, xl_128, xl_1000, xl_9999, xg_1, xg_2, xg_3, xg_4, xg_5, xg_6, xg_7, xg_8, xg_9, xg_10, xg_12, xg_20, xg_30, xg_32, xg_40, xg_41, xg_42, xg_48, xg_57, xg_59, xg_64, xg_97, xg_100, xg_122, xg_126, xg_128, xg_1000, xg_9999, xe_1, xe_2, xe_3, xe_4, xe_5, xe_6, xe_7, xe_8, xe_9, xe_10, xe_12, xe_20, xe_30, xe_32, xe_40, xe_41, xe_42, xe_48, xe_57, xe_59, xe_64, xe_97, xe_100, xe_122, xe_126, xe_128, xe_1000, xe_9999, true_implies, false_implies, not_true_eq_false, not_false_eq_true, and_true, true_and, forall_const, imp_self, lc_eq, implies_true, vin, Bool.true_eq_false, Bool.false_eq_true, false_and, and_false, or_false, false_or, or_true, true_or]
    refine up0 (n := i) (F := fun o => ∀ mi ml, cP ti tl mi ml → mOK w z mi → aOK ti tl mi → (∀ g, g < i → ∀ h, b3 (mi 39 g) h = pB ((h < i ∧ g < h ∧ paP ti tl g h) ∨ (h = i ∧ g < o ∧ paP ti tl g h))) → (mi 39 i = 0) → W_X5_findPartners_22 (cs ro (d + 5)) ro Q (nI i) (nI o) mi ml) (fun o ho ih2 mi ml C M A R1 R2 => ?_) (fun mi ml C M A R1 R2 => ?_) _ ml (C.ui _ rfl) (keep mi _ _ M A).1 (keep mi _ _ M A).2 (fun g hg h => ?_) ?_
    · refine vc_X5_findPartners_22 _ _ mi ml ?_
      rw [pair_eq _ (by omega) (by omega), A i (by omega), A o (by omega), pB_iff, pB_iff, pair_n (by omega) (by omega)]
      have hlt : 2 ^ i ||| 2 ^ o < 2 ^ 30 := or_lt (p2lt (by omega)) (by omega)
      obtain ⟨ml', s1, C1, _⟩ := s_goes (ro := ro) (d := d) O C (s := 2 ^ i ||| 2 ^ o) hlt
      simp (disch := omega) only [ho, nI_ltI, nI_eq, nI_clamp, nI_1, xl_0, xg_0, xe_0, xe_m1, nI_0, xl_1, xl_2, xl_3, xl_4, xl_5, xl_6, xl_7, xl_8, xl_9, xl_10, xl_12, xl_20, xl_30, xl_32, xl_40, xl_41, xl_42, xl_48, xl_57, xl_59, xl_64, xl_97, xl_100, xl_122, xl_126, xl_128, xl_1000, xl_9999, xg_1, xg_2, xg_3, xg_4, xg_5, xg_6, xg_7, xg_8, xg_9, xg_10, xg_12, xg_20, xg_30, xg_32, xg_40, xg_41, xg_42, xg_48, xg_57, xg_59, xg_64, xg_97, xg_100, xg_122, xg_126, xg_128, xg_1000, xg_9999, xe_1, xe_2, xe_3, xe_4, xe_5, xe_6, xe_7, xe_8, xe_9, xe_10, xe_12, xe_20, xe_30, xe_32, xe_40, xe_41, xe_42, xe_48, xe_57, xe_59, xe_64, xe_97, xe_100, xe_122, xe_126, xe_128, xe_1000, xe_9999, true_implies, false_implies, not_true_eq_false, not_false_eq_true, and_true, true_and, forall_const, imp_self, lc_eq, implies_true, vin, Bool.true_eq_false, Bool.false_eq_true, false_and, and_false, or_false, false_or, or_true, true_or]
      have old : ¬ paP ti tl i o → ∀ ml, cP ti tl mi ml → W_X5_findPartners_22 (cs ro (d + 5)) ro Q (nI i) (nI (o + 1)) mi ml := fun hno ml C => ih2 _ _ C M A (fun g hg h => by
        rw [R1 g hg]
        apply pB_congr
        constructor
        · rintro (q | ⟨q1, q2, q3⟩)
          · exact Or.inl q
          · exact Or.inr ⟨q1, by omega, q3⟩
        · rintro (q | ⟨q1, q2, q3⟩)
          · exact Or.inl q
          · refine Or.inr ⟨q1, ?_, q3⟩
            rcases Nat.lt_or_eq_of_le (Nat.le_of_lt_succ q2) with e | e
            · exact e
            · rw [e, q1] at q3; exact absurd (paP_symm.1 q3) hno) R2
      refine ⟨fun c => ⟨_, _, _, s1, ?_⟩, fun c => old (fun q => c ⟨q.1, q.2.1⟩) ml C⟩
      rw [pI_e0]
      refine ⟨fun c2 => old (fun q => c2 q.2.2) ml' C1, fun c2 => ?_⟩
      have hyes : paP ti tl i o := ⟨c.1, c.2, Classical.not_not.1 c2⟩
      have k1 := keep mi o (mi 39 o ||| ((1 : Int32) <<< (nI i &&& 31))) M A
      refine ih2 _ _ (C1.ui _ rfl) k1.1 k1.2 (fun g hg h => ?_) ?_
      · simp only [ui_app, if_true]
        by_cases e : g = o
        · rw [if_pos e, b3_orbit _ (by omega), R1 o (by omega), e]
          apply pB_eq
          rw [Bool.or_eq_true, pB_iff, decide_eq_true_iff]
          constructor
          · rintro ((q | ⟨q1, q2, q3⟩) | q)
            · exact Or.inl q
            · exact Or.inr ⟨q1, by omega, q3⟩
            · rw [q]; exact Or.inr ⟨rfl, by omega, paP_symm.1 hyes⟩
          · rintro (q | ⟨q1, q2, q3⟩)
            · exact Or.inl (Or.inl q)
            · exact Or.inr q1
        · rw [if_neg e, R1 g hg]
          apply pB_congr
          constructor
          · rintro (q | ⟨q1, q2, q3⟩)
            · exact Or.inl q
            · exact Or.inr ⟨q1, by omega, q3⟩
          · rintro (q | ⟨q1, q2, q3⟩)
            · exact Or.inl q
            · exact Or.inr ⟨q1, by omega, q3⟩
      · simp only [ui_app, if_true, if_neg (show ¬ i = o by omega)]
        exact R2
    · refine vc_X5_findPartners_22 _ _ mi ml ?_
      simp (disch := omega) only [Nat.lt_irrefl, nI_ltI, nI_eq, nI_clamp, nI_1, xl_0, xg_0, xe_0, xe_m1, nI_0, xl_1, xl_2, xl_3, xl_4, xl_5, xl_6, xl_7, xl_8, xl_9, xl_10, xl_12, xl_20, xl_30, xl_32, xl_40, xl_41, xl_42, xl_48, xl_57, xl_59, xl_64, xl_97, xl_100, xl_122, xl_126, xl_128, xl_1000, xl_9999, xg_1, xg_2, xg_3, xg_4, xg_5, xg_6, xg_7, xg_8, xg_9, xg_10, xg_12, xg_20, xg_30, xg_32, xg_40, xg_41, xg_42, xg_48, xg_57, xg_59, xg_64, xg_97, xg_100, xg_122, xg_126, xg_128, xg_1000, xg_9999, xe_1, xe_2, xe_3, xe_4, xe_5, xe_6, xe_7, xe_8, xe_9, xe_10, xe_12, xe_20, xe_30, xe_32, xe_40, xe_41, xe_42, xe_48, xe_57, xe_59, xe_64, xe_97, xe_100, xe_122, xe_126, xe_128, xe_1000, xe_9999, true_implies, false_implies, not_true_eq_false, not_false_eq_true, and_true, true_and, forall_const, imp_self, lc_eq, implies_true, vin, Bool.true_eq_false, Bool.false_eq_true, false_and, and_false, or_false, false_or, or_true, true_or]
      refine ih _ _ C M A (fun g hg h => ?_)
      by_cases e : g = i
      · rw [e, R2, b3_0, eq_comm, pB_f]
        rintro ⟨q1, q2, _⟩
        omega
      · rw [R1 g (by omega)]
        apply pB_congr
        constructor
        · rintro (⟨q1, q2, q3⟩ | ⟨q1, q2, q3⟩)
          · exact ⟨by omega, q2, q3⟩
          · exact ⟨by omega, by omega, q3⟩
        · rintro ⟨q1, q2, q3⟩
          by_cases e2 : h = i
          · exact Or.inr ⟨e2, by omega, q3⟩
          · exact Or.inl ⟨by omega, q2, q3⟩
    · rw [ui_app, if_pos rfl, if_neg (show ¬ g = i by omega), R g hg]
      apply pB_congr
      constructor
      · exact fun q => Or.inl q
      · rintro (q | ⟨q1, q2, q3⟩)
        · exact q
        · exact absurd q2 (Nat.not_lt_zero _)
    · rw [ui_app, if_pos rfl, if_pos rfl]
  · refine vc_X5_findPartners_2 _ mi ml ?_
    simp (disch := omega) only [C.2.1.G, Nat.lt_irrefl, nI_ltI, nI_eq, nI_clamp, nI_1, xl_0, xg_0, xe_0, xe_m1, nI_0, xl_1, xl_2, xl_3, xl_4, xl_5, xl_6, xl_7, xl_8, xl_9, xl_10, xl_12, xl_20, xl_30, xl_32, xl_40, xl_41, xl_42, xl_48, xl_57, xl_59, xl_64, xl_97, xl_100, xl_122, xl_126, xl_128, xl_1000, xl_9999, xg_1, xg_2, xg_3, xg_4, xg_5, xg_6, xg_7, xg_8, xg_9, xg_10, xg_12, xg_20, xg_30, xg_32, xg_40, xg_41, xg_42, xg_48, xg_57, xg_59, xg_64, xg_97, xg_100, xg_122, xg_126, xg_128, xg_1000, xg_9999, xe_1, xe_2, xe_3, xe_4, xe_5, xe_6, xe_7, xe_8, xe_9, xe_10, xe_12, xe_20, xe_30, xe_32, xe_40, xe_41, xe_42, xe_48, xe_57, xe_59, xe_64, xe_97, xe_100, xe_122, xe_126, xe_128, xe_1000, xe_9999, true_implies, false_implies, not_true_eq_false, not_false_eq_true, and_true, true_and, forall_const, imp_self, lc_eq, implies_true, vin, Bool.true_eq_false, Bool.false_eq_true, false_and, and_false, or_false, false_or, or_true, true_or]
    refine hQ _ _ ⟨C, M, A, fun g hg h hh hne => ?_⟩
    rw [R g hg]
    exact pB_congr ⟨fun q => q.2.2, fun q => ⟨hh, hne, q⟩⟩
/-- the state while least sets are met -/
def lOK (ti : cM1) (tl : cM2) (w : Int32) (z : Int32 × Int32) (mi : cM1) (ml : cM2) : Prop := cP ti tl mi ml ∧ mOK w z mi ∧ aOK ti tl mi ∧ rOK ti tl mi
theorem s_meetL {z : Int32 × Int32} (L : lOK ti tl w z mi ml) (s : Nat) : ∃ mi', cS ro (d + 1) 40 [.ref 38, .int (nI s)] mi ml none mi' ml ∧ lOK ti tl w (mt w z s) mi' ml := by
  obtain ⟨mi', s1, M1, hk⟩ := s_meet (ro := ro) (d := d) (ml := ml) L.2.1 s
  refine ⟨mi', s1, L.1.ofi (K := 38) rfl rfl (fun _ => rfl) (fun k j h => hk k j (Or.inl h)), M1, fun g hg => ?_, fun g hg h hh hne => ?_⟩
  · rw [hk 38 1 (Or.inr rfl)]; exact L.2.2.1 g hg
  · rw [hk 39 g (Or.inl (by decide))]; exact L.2.2.2 g hg h hh hne
theorem s_seekOnes (O : okT ti) {z : Int32 × Int32} (C : cP ti tl mi ml) (M : mOK w z mi) (A : aOK ti tl mi) : ∃ mi' ml', cS ro (d + 2) 41 [.ref 38] mi ml none mi' ml' ∧ cP ti tl mi' ml' ∧ mOK w ((pre (on1 ti tl) (nG ti tl)).foldl (mt w) z) mi' := by
  have hW := O.W2
  have hG := nG_le ti tl
  refine ab_ex_q rfl rfl (fun Q hQ => vc_X5_seekOnes_0 mi ml ?_)
  refine up0 (n := nG ti tl) (F := fun i => ∀ mi, cP ti tl mi ml → mOK w ((pre (on1 ti tl) i).foldl (mt w) z) mi → aOK ti tl mi → W_X5_seekOnes_2 (cs ro (d + 1)) ro Q (nI i) mi ml) (fun i hi ih mi C M A => ?_) (fun mi C M A => ?_) mi C M A
  · refine vc_X5_seekOnes_2 _ mi ml ?_
    simp (disch := omega) only [C.2.1.G, hi, b3_a0, b3_a1, A i hi, nI_ltI, nI_eq, nI_clamp, nI_1, xl_0, xg_0, xe_0, xe_m1, nI_0, xl_1, xl_2, xl_3, xl_4, xl_5, xl_6, xl_7, xl_8, xl_9, xl_10, xl_12, xl_20, xl_30, xl_32, xl_40, xl_41, xl_42, xl_48, xl_57, xl_59, xl_64, xl_97, xl_100, xl_122, xl_126, xl_128, xl_1000, xl_9999, xg_1, xg_2, xg_3, xg_4, xg_5, xg_6, xg_7, xg_8, xg_9, xg_10, xg_12, xg_20, xg_30, xg_32, xg_40, xg_41, xg_42, xg_48, xg_57, xg_59, xg_64, xg_97, xg_100, xg_122, xg_126, xg_128, xg_1000, xg_9999, xe_1, xe_2, xe_3, xe_4, xe_5, xe_6, xe_7, xe_8, xe_9, xe_10, xe_12, xe_20, xe_30, xe_32, xe_40, xe_41, xe_42, xe_48, xe_57, xe_59, xe_64, xe_97, xe_100, xe_122, xe_126, xe_128, xe_1000, xe_9999, true_implies, false_implies, not_true_eq_false, not_false_eq_true, and_true, true_and, forall_const, imp_self, lc_eq, implies_true, vin, Bool.true_eq_false, Bool.false_eq_true, false_and, and_false, or_false, false_or, or_true, true_or]
    rw [bit_n (by omega), pB_f]
    refine ⟨fun c => ?_, fun c => ?_⟩
    · obtain ⟨mi', s1, M1, hk⟩ := s_meet (ro := ro) (d := d) (ml := ml) M (2 ^ i)
      refine ⟨_, _, s1, ih _ (C.ofi (K := 38) rfl rfl (fun _ => rfl) (fun k j h => hk k j (Or.inl h))) ?_ (fun g hg => ?_)⟩
      · rw [pre_s, List.foldl_append, on1, lif_1 c]; exact M1
      · rw [hk 38 1 (Or.inr rfl)]; exact A g hg
    · refine ih _ C ?_ A
      rw [pre_s, List.foldl_append, on1, lif_0 c]; exact M
  · refine vc_X5_seekOnes_2 _ mi ml ?_
    simp (disch := omega) only [C.2.1.G, Nat.lt_irrefl, nI_ltI, nI_eq, nI_clamp, nI_1, xl_0, xg_0, xe_0, xe_m1, nI_0, xl_1, xl_2, xl_3, xl_4, xl_5, xl_6, xl_7, xl_8, xl_9, xl_10, xl_12, xl_20, xl_30, xl_32, xl_40, xl_41, xl_42, xl_48, xl_57, xl_59, xl_64, xl_97, xl_100, xl_122, xl_126, xl_128, xl_1000, xl_9999, xg_1, xg_2, xg_3, xg_4, xg_5, xg_6, xg_7, xg_8, xg_9, xg_10, xg_12, xg_20, xg_30, xg_32, xg_40, xg_41, xg_42, xg_48, xg_57, xg_59, xg_64, xg_97, xg_100, xg_122, xg_126, xg_128, xg_1000, xg_9999, xe_1, xe_2, xe_3, xe_4, xe_5, xe_6, xe_7, xe_8, xe_9, xe_10, xe_12, xe_20, xe_30, xe_32, xe_40, xe_41, xe_42, xe_48, xe_57, xe_59, xe_64, xe_97, xe_100, xe_122, xe_126, xe_128, xe_1000, xe_9999, true_implies, false_implies, not_true_eq_false, not_false_eq_true, and_true, true_and, forall_const, imp_self, lc_eq, implies_true, vin, Bool.true_eq_false, Bool.false_eq_true, false_and, and_false, or_false, false_or, or_true, true_or]
    exact hQ _ _ ⟨C, M⟩
theorem s_seekTwos (O : okT ti) {z : Int32 × Int32} (L : lOK ti tl w z mi ml) : ∃ mi' ml', cS ro (d + 2) 42 [.ref 38] mi ml none mi' ml' ∧ cP ti tl mi' ml' ∧ mOK w ((pre (fun g => pre (on2 ti tl g) (nG ti tl)) (nG ti tl)).foldl (mt w) z) mi' := by
  have hW := O.W2
  have hG := nG_le ti tl
  refine ab_ex_q rfl rfl (fun Q hQ => vc_X5_seekTwos_0 mi ml ?_)
  refine up0 (n := nG ti tl) (F := fun i => ∀ mi, lOK ti tl w ((pre (fun g => pre (on2 ti tl g) (nG ti tl)) i).foldl (mt w) z) mi ml → W_X5_seekTwos_2 (cs ro (d + 1)) ro Q (nI i) mi ml) (fun i hi ih mi L => ?_) (fun mi L => ?_) mi L
  · refine vc_X5_seekTwos_2 _ mi ml ?_
    simp (disch := omega) only [L.1.2.1.G, hi, nI_ltI, nI_eq, nI_clamp, nI_1, xl_0, xg_0, xe_0, xe_m1, nI_0, xl_1, xl_2, xl_3, xl_4, xl_5, xl_6, xl_7, xl_8, xl_9, xl_10, xl_12, xl_20, xl_30, xl_32, xl_40, xl_41, xl_42, xl_48, xl_57, xl_59, xl_64, xl_97, xl_100, xl_122, xl_126, xl_128, xl_1000, xl_9999, xg_1, xg_2, xg_3, xg_4, xg_5, xg_6, xg_7, xg_8, xg_9, xg_10, xg_12, xg_20, xg_30, xg_32, xg_40, xg_41, xg_42, xg_48, xg_57, xg_59, xg_64, xg_97, xg_100, xg_122, xg_126, xg_128, xg_1000, xg_9999, xe_1, xe_2, xe_3, xe_4, xe_5, xe_6, xe_7, xe_8, xe_9, xe_10, xe_12, xe_20, xe_30, xe_32, xe_40, xe_41, xe_42, xe_48, xe_57, xe_59, xe_64, xe_97, xe_100, xe_122, xe_126, xe_128, xe_1000, xe_9999, true_implies, false_implies, not_true_eq_false, not_false_eq_true, and_true, true_and, forall_const, imp_self, lc_eq, implies_true, vin, Bool.true_eq_false, Bool.false_eq_true, false_and, and_false, or_false, false_or, or_true, true_or]
    refine up (n := nG ti tl) (F := fun o => i < o → ∀ mi, lOK ti tl w ((pre (on2 ti tl i) o).foldl (mt w) ((pre (fun g => pre (on2 ti tl g) (nG ti tl)) i).foldl (mt w) z)) mi ml → W_X5_seekTwos_17 (cs ro (d + 1)) ro Q (nI i) (nI o) mi ml) (fun o ho ih2 hio mi L => ?_) (fun hio mi L => ?_) (i + 1) (by omega) (by omega) mi ?_
    · refine vc_X5_seekTwos_17 _ _ mi ml ?_
      rw [pair_eq _ (by omega) (by omega), L.2.2.1 i (by omega), L.2.2.1 o (by omega), pB_iff, pB_iff, pair_n (by omega) (by omega)]
      simp (disch := omega) only [L.1.2.1.G, ho, b3_a0, b3_a1, L.2.2.2 i hi o ho (by omega), nI_ltI, nI_eq, nI_clamp, nI_1, xl_0, xg_0, xe_0, xe_m1, nI_0, xl_1, xl_2, xl_3, xl_4, xl_5, xl_6, xl_7, xl_8, xl_9, xl_10, xl_12, xl_20, xl_30, xl_32, xl_40, xl_41, xl_42, xl_48, xl_57, xl_59, xl_64, xl_97, xl_100, xl_122, xl_126, xl_128, xl_1000, xl_9999, xg_1, xg_2, xg_3, xg_4, xg_5, xg_6, xg_7, xg_8, xg_9, xg_10, xg_12, xg_20, xg_30, xg_32, xg_40, xg_41, xg_42, xg_48, xg_57, xg_59, xg_64, xg_97, xg_100, xg_122, xg_126, xg_128, xg_1000, xg_9999, xe_1, xe_2, xe_3, xe_4, xe_5, xe_6, xe_7, xe_8, xe_9, xe_10, xe_12, xe_20, xe_30, xe_32, xe_40, xe_41, xe_42, xe_48, xe_57, xe_59, xe_64, xe_97, xe_100, xe_122, xe_126, xe_128, xe_1000, xe_9999, true_implies, false_implies, not_true_eq_false, not_false_eq_true, and_true, true_and, forall_const, imp_self, lc_eq, implies_true, vin, Bool.true_eq_false, Bool.false_eq_true, false_and, and_false, or_false, false_or, or_true, true_or]
      have skip : ¬ (alP1 ti tl i ∧ alP1 ti tl o ∧ ¬ goN ti tl (2 ^ i ||| 2 ^ o)) → W_X5_seekTwos_17 (cs ro (d + 1)) ro Q (nI i) (nI (o + 1)) mi ml := fun hno => by
        refine ih2 (by omega) mi ?_
        rw [pre_s, List.foldl_append, on2, lif_0 (fun q => hno q.2)]; exact L
      refine ⟨fun c => ⟨fun c2 => ?_, fun c2 => skip (fun q => ?_)⟩, fun c => skip (fun q => c ⟨q.1, q.2.1⟩)⟩
      · obtain ⟨mi', s1, L1⟩ := s_meetL (ro := ro) (d := d) L (2 ^ i ||| 2 ^ o)
        refine ⟨_, _, s1, ih2 (by omega) mi' ?_⟩
        rw [pB_f] at c2
        rw [pre_s, List.foldl_append, on2, lif_1 ⟨hio, c.1, c.2, fun q => c2 ⟨c.1, c.2, q⟩⟩]
        exact L1
      · rw [pB_f] at c2
        exact c2 (fun h => q.2.2 h.2.2)
    · refine vc_X5_seekTwos_17 _ _ mi ml ?_
      simp (disch := omega) only [L.1.2.1.G, Nat.lt_irrefl, nI_ltI, nI_eq, nI_clamp, nI_1, xl_0, xg_0, xe_0, xe_m1, nI_0, xl_1, xl_2, xl_3, xl_4, xl_5, xl_6, xl_7, xl_8, xl_9, xl_10, xl_12, xl_20, xl_30, xl_32, xl_40, xl_41, xl_42, xl_48, xl_57, xl_59, xl_64, xl_97, xl_100, xl_122, xl_126, xl_128, xl_1000, xl_9999, xg_1, xg_2, xg_3, xg_4, xg_5, xg_6, xg_7, xg_8, xg_9, xg_10, xg_12, xg_20, xg_30, xg_32, xg_40, xg_41, xg_42, xg_48, xg_57, xg_59, xg_64, xg_97, xg_100, xg_122, xg_126, xg_128, xg_1000, xg_9999, xe_1, xe_2, xe_3, xe_4, xe_5, xe_6, xe_7, xe_8, xe_9, xe_10, xe_12, xe_20, xe_30, xe_32, xe_40, xe_41, xe_42, xe_48, xe_57, xe_59, xe_64, xe_97, xe_100, xe_122, xe_126, xe_128, xe_1000, xe_9999, true_implies, false_implies, not_true_eq_false, not_false_eq_true, and_true, true_and, forall_const, imp_self, lc_eq, implies_true, vin, Bool.true_eq_false, Bool.false_eq_true, false_and, and_false, or_false, false_or, or_true, true_or]
      refine ih mi ?_
      rw [pre_s, List.foldl_append]; exact L
    · rw [pre_nil (f := on2 ti tl i) (fun j hj => by rw [on2, lif_0]; omega)]; exact L
  · refine vc_X5_seekTwos_2 _ mi ml ?_
    simp (disch := omega) only [L.1.2.1.G, Nat.lt_irrefl, nI_ltI, nI_eq, nI_clamp, nI_1, xl_0, xg_0, xe_0, xe_m1, nI_0, xl_1, xl_2, xl_3, xl_4, xl_5, xl_6, xl_7, xl_8, xl_9, xl_10, xl_12, xl_20, xl_30, xl_32, xl_40, xl_41, xl_42, xl_48, xl_57, xl_59, xl_64, xl_97, xl_100, xl_122, xl_126, xl_128, xl_1000, xl_9999, xg_1, xg_2, xg_3, xg_4, xg_5, xg_6, xg_7, xg_8, xg_9, xg_10, xg_12, xg_20, xg_30, xg_32, xg_40, xg_41, xg_42, xg_48, xg_57, xg_59, xg_64, xg_97, xg_100, xg_122, xg_126, xg_128, xg_1000, xg_9999, xe_1, xe_2, xe_3, xe_4, xe_5, xe_6, xe_7, xe_8, xe_9, xe_10, xe_12, xe_20, xe_30, xe_32, xe_40, xe_41, xe_42, xe_48, xe_57, xe_59, xe_64, xe_97, xe_100, xe_122, xe_126, xe_128, xe_1000, xe_9999, true_implies, false_implies, not_true_eq_false, not_false_eq_true, and_true, true_and, forall_const, imp_self, lc_eq, implies_true, vin, Bool.true_eq_false, Bool.false_eq_true, false_and, and_false, or_false, false_or, or_true, true_or]
    exact hQ _ _ ⟨L.1, L.2.1⟩
theorem s_seekThirds (O : okT ti) {z : Int32 × Int32} (L : lOK ti tl w z mi ml) {g h : Nat} (hgh : g < h) (hh : h < nG ti tl) : ∃ mi' ml', cS ro (d + 6) 44 [.ref 38, .int (nI g), .int (nI h)] mi ml none mi' ml' ∧ lOK ti tl w ((pre (on3 ti tl g h) (nG ti tl)).foldl (mt w) z) mi' ml' := by
  have hW := O.W2
  have hG := nG_le ti tl
  refine ab_ex_q rfl rfl (fun Q hQ => vc_X5_seekThirds_0 _ _ mi ml ?_)
  simp (disch := omega) only [nI_ltI, nI_eq, nI_clamp, nI_1, xl_0, xg_0, xe_0, xe_m1, nI_0, xl_1, xl_2, xl_3, xl_4, xl_5, xl_6, xl_7, xl_8, xl_9, xl_10, xl_12, xl_20, xl_30, xl_32, xl_40, xl_41, xl_42, xl_48, xl_57, xl_59, xl_64, xl_97, xl_100, xl_122, xl_126, xl_128, xl_1000, xl_9999, xg_1, xg_2, xg_3, xg_4, xg_5, xg_6, xg_7, xg_8, xg_9, xg_10, xg_12, xg_20, xg_30, xg_32, xg_40, xg_41, xg_42, xg_48, xg_57, xg_59, xg_64, xg_97, xg_100, xg_122, xg_126, xg_128, xg_1000, xg_9999, xe_1, xe_2, xe_3, xe_4, xe_5, xe_6, xe_7, xe_8, xe_9, xe_10, xe_12, xe_20, xe_30, xe_32, xe_40, xe_41, xe_42, xe_48, xe_57, xe_59, xe_64, xe_97, xe_100, xe_122, xe_126, xe_128, xe_1000, xe_9999, true_implies, false_implies, not_true_eq_false, not_false_eq_true, and_true, true_and, forall_const, imp_self, lc_eq, implies_true, vin, Bool.true_eq_false, Bool.false_eq_true, false_and, and_false, or_false, false_or, or_true, true_or]
  rw [pair_n (by omega) (by omega)]
  have hlt : 2 ^ g ||| 2 ^ h < 2 ^ 30 := or_lt (p2lt (by omega)) (by omega)
  have hb : ∀ k, k < nG ti tl → h < k → (b3 (mi 39 g &&& mi 39 h) k = true ↔ paP ti tl g k ∧ paP ti tl h k) := fun k hk h1 => by
    rw [b3_and, L.2.2.2 g (by omega) k hk (by omega), L.2.2.2 h hh k hk (by omega), Bool.and_eq_true, pB_iff, pB_iff]
  generalize mi 39 g &&& mi 39 h = both at hb ⊢
  refine up (n := nG ti tl) (F := fun o => h < o → ∀ mi ml, lOK ti tl w ((pre (on3 ti tl g h) o).foldl (mt w) z) mi ml → W_X5_seekThirds_28 (cs ro (d + 5)) ro Q (nI g) (nI h) both (nI (2 ^ g ||| 2 ^ h)) (nI o) mi ml) (fun o ho ih2 hio mi ml L => ?_) (fun hio mi ml L => ?_) (h + 1) (by omega) (by omega) mi ml ?_
  · refine vc_X5_seekThirds_28 _ _ _ _ _ mi ml ?_
    rw [or_bit hlt (by omega)]
    simp (disch := omega) only [L.1.2.1.G, ho, b3_a0, b3_a1, nI_ltI, nI_eq, nI_clamp, nI_1, xl_0, xg_0, xe_0, xe_m1, nI_0, xl_1, xl_2, xl_3, xl_4, xl_5, xl_6, xl_7, xl_8, xl_9, xl_10, xl_12, xl_20, xl_30, xl_32, xl_40, xl_41, xl_42, xl_48, xl_57, xl_59, xl_64, xl_97, xl_100, xl_122, xl_126, xl_128, xl_1000, xl_9999, xg_1, xg_2, xg_3, xg_4, xg_5, xg_6, xg_7, xg_8, xg_9, xg_10, xg_12, xg_20, xg_30, xg_32, xg_40, xg_41, xg_42, xg_48, xg_57, xg_59, xg_64, xg_97, xg_100, xg_122, xg_126, xg_128, xg_1000, xg_9999, xe_1, xe_2, xe_3, xe_4, xe_5, xe_6, xe_7, xe_8, xe_9, xe_10, xe_12, xe_20, xe_30, xe_32, xe_40, xe_41, xe_42, xe_48, xe_57, xe_59, xe_64, xe_97, xe_100, xe_122, xe_126, xe_128, xe_1000, xe_9999, true_implies, false_implies, not_true_eq_false, not_false_eq_true, and_true, true_and, forall_const, imp_self, lc_eq, implies_true, vin, Bool.true_eq_false, Bool.false_eq_true, false_and, and_false, or_false, false_or, or_true, true_or]
    have skip : ∀ ml, lOK ti tl w ((pre (on3 ti tl g h) o).foldl (mt w) z) mi ml → ¬ (paP ti tl g o ∧ paP ti tl h o ∧ ¬ goN ti tl (2 ^ g ||| 2 ^ h ||| 2 ^ o)) → W_X5_seekThirds_28 (cs ro (d + 5)) ro Q (nI g) (nI h) both (nI (2 ^ g ||| 2 ^ h)) (nI (o + 1)) mi ml := fun ml L hno => by
      refine ih2 (by omega) mi ml ?_
      rw [pre_s, List.foldl_append, on3, lif_0 (fun q => hno q.2)]; exact L
    refine ⟨fun c => skip ml L (fun q => ?_), fun c => ?_⟩
    · have := (hb o ho hio).2 ⟨q.1, q.2.1⟩
      rw [c] at this; cases this
    · have c' := (hb o ho hio).1 (by simpa using c)
      obtain ⟨ml', s1, C1, _⟩ := s_goes (ro := ro) (d := d) O L.1 (s := 2 ^ g ||| 2 ^ h ||| 2 ^ o) (or_lt hlt (by omega))
      have L' : lOK ti tl w ((pre (on3 ti tl g h) o).foldl (mt w) z) mi ml' := ⟨C1, L.2⟩
      refine ⟨_, _, _, s1, ?_⟩
      rw [pI_e0]
      refine ⟨fun c2 => ?_, fun c2 => skip ml' L' (fun q => c2 q.2.2)⟩
      obtain ⟨mi', s2, L1⟩ := s_meetL (ro := ro) (d := d + 4) L' (2 ^ g ||| 2 ^ h ||| 2 ^ o)
      refine ⟨_, _, s2, ih2 (by omega) mi' ml' ?_⟩
      rw [pre_s, List.foldl_append, on3, lif_1 ⟨hio, c'.1, c'.2, c2⟩]
      exact L1
  · refine vc_X5_seekThirds_28 _ _ _ _ _ mi ml ?_
    simp (disch := omega) only [L.1.2.1.G, Nat.lt_irrefl, nI_ltI, nI_eq, nI_clamp, nI_1, xl_0, xg_0, xe_0, xe_m1, nI_0, xl_1, xl_2, xl_3, xl_4, xl_5, xl_6, xl_7, xl_8, xl_9, xl_10, xl_12, xl_20, xl_30, xl_32, xl_40, xl_41, xl_42, xl_48, xl_57, xl_59, xl_64, xl_97, xl_100, xl_122, xl_126, xl_128, xl_1000, xl_9999, xg_1, xg_2, xg_3, xg_4, xg_5, xg_6, xg_7, xg_8, xg_9, xg_10, xg_12, xg_20, xg_30, xg_32, xg_40, xg_41, xg_42, xg_48, xg_57, xg_59, xg_64, xg_97, xg_100, xg_122, xg_126, xg_128, xg_1000, xg_9999, xe_1, xe_2, xe_3, xe_4, xe_5, xe_6, xe_7, xe_8, xe_9, xe_10, xe_12, xe_20, xe_30, xe_32, xe_40, xe_41, xe_42, xe_48, xe_57, xe_59, xe_64, xe_97, xe_100, xe_122, xe_126, xe_128, xe_1000, xe_9999, true_implies, false_implies, not_true_eq_false, not_false_eq_true, and_true, true_and, forall_const, imp_self, lc_eq, implies_true, vin, Bool.true_eq_false, Bool.false_eq_true, false_and, and_false, or_false, false_or, or_true, true_or]
    exact hQ _ _ L
  · rw [pre_nil (fun j hj => by rw [on3, lif_0]; omega)]; exact L
theorem s_seekThrees (O : okT ti) {z : Int32 × Int32} (L : lOK ti tl w z mi ml) : ∃ mi' ml', cS ro (d + 7) 43 [.ref 38] mi ml none mi' ml' ∧ cP ti tl mi' ml' ∧ mOK w ((pre (fun g => pre (fun h => lif (g < h ∧ paP ti tl g h) (pre (on3 ti tl g h) (nG ti tl))) (nG ti tl)) (nG ti tl)).foldl (mt w) z) mi' := by
  have hW := O.W2
  have hG := nG_le ti tl
  refine ab_ex_q rfl rfl (fun Q hQ => vc_X5_seekThrees_0 mi ml ?_)
  refine up0 (n := nG ti tl) (F := fun i => ∀ mi ml, lOK ti tl w ((pre (fun g => pre (fun h => lif (g < h ∧ paP ti tl g h) (pre (on3 ti tl g h) (nG ti tl))) (nG ti tl)) i).foldl (mt w) z) mi ml → W_X5_seekThrees_2 (cs ro (d + 6)) ro Q (nI i) mi ml) (fun i hi ih mi ml L => ?_) (fun mi ml L => ?_) mi ml L
  · refine vc_X5_seekThrees_2 _ mi ml ?_
    simp (disch := omega) only [L.1.2.1.G, hi, nI_ltI, nI_eq, nI_clamp, nI_1, xl_0, xg_0, xe_0, xe_m1, nI_0, xl_1, xl_2, xl_3, xl_4, xl_5, xl_6, xl_7, xl_8, xl_9, xl_10, xl_12, xl_20, xl_30, xl_32, xl_40, xl_41, xl_42, xl_48, xl_57, xl_59, xl_64, xl_97, xl_100, xl_122, xl_126, xl_128, xl_1000, xl_9999, xg_1, xg_2, xg_3, xg_4, xg_5, xg_6, xg_7, xg_8, xg_9, xg_10, xg_12, xg_20, xg_30, xg_32, xg_40, xg_41, xg_42, xg_48, xg_57, xg_59, xg_64, xg_97, xg_100, xg_122, xg_126, xg_128, xg_1000, xg_9999, xe_1, xe_2, xe_3, xe_4, xe_5, xe_6, xe_7, xe_8, xe_9, xe_10, xe_12, xe_20, xe_30, xe_32, xe_40, xe_41, xe_42, xe_48, xe_57, xe_59, xe_64, xe_97, xe_100, xe_122, xe_126, xe_128, xe_1000, xe_9999, true_implies, false_implies, not_true_eq_false, not_false_eq_true, and_true, true_and, forall_const, imp_self, lc_eq, implies_true, vin, Bool.true_eq_false, Bool.false_eq_true, false_and, and_false, or_false, false_or, or_true, true_or]
    refine up (n := nG ti tl) (F := fun o => i < o → ∀ mi ml, lOK ti tl w ((pre (fun h => lif (i < h ∧ paP ti tl i h) (pre (on3 ti tl i h) (nG ti tl))) o).foldl (mt w) ((pre (fun g => pre (fun h => lif (g < h ∧ paP ti tl g h) (pre (on3 ti tl g h) (nG ti tl))) (nG ti tl)) i).foldl (mt w) z)) mi ml → W_X5_seekThrees_17 (cs ro (d + 6)) ro Q (nI i) (nI o) mi ml) (fun o ho ih2 hio mi ml L => ?_) (fun hio mi ml L => ?_) (i + 1) (by omega) (by omega) mi ml ?_
    · refine vc_X5_seekThrees_17 _ _ mi ml ?_
      simp (disch := omega) only [L.1.2.1.G, ho, b3_a0, b3_a1, L.2.2.2 i hi o ho (by omega), nI_ltI, nI_eq, nI_clamp, nI_1, xl_0, xg_0, xe_0, xe_m1, nI_0, xl_1, xl_2, xl_3, xl_4, xl_5, xl_6, xl_7, xl_8, xl_9, xl_10, xl_12, xl_20, xl_30, xl_32, xl_40, xl_41, xl_42, xl_48, xl_57, xl_59, xl_64, xl_97, xl_100, xl_122, xl_126, xl_128, xl_1000, xl_9999, xg_1, xg_2, xg_3, xg_4, xg_5, xg_6, xg_7, xg_8, xg_9, xg_10, xg_12, xg_20, xg_30, xg_32, xg_40, xg_41, xg_42, xg_48, xg_57, xg_59, xg_64, xg_97, xg_100, xg_122, xg_126, xg_128, xg_1000, xg_9999, xe_1, xe_2, xe_3, xe_4, xe_5, xe_6, xe_7, xe_8, xe_9, xe_10, xe_12, xe_20, xe_30, xe_32, xe_40, xe_41, xe_42, xe_48, xe_57, xe_59, xe_64, xe_97, xe_100, xe_122, xe_126, xe_128, xe_1000, xe_9999, true_implies, false_implies, not_true_eq_false, not_false_eq_true, and_true, true_and, forall_const, imp_self, lc_eq, implies_true, vin, Bool.true_eq_false, Bool.false_eq_true, false_and, and_false, or_false, false_or, or_true, true_or]
      rw [pB_f]
      refine ⟨fun c => ih2 (by omega) mi ml ?_, fun c => ?_⟩
      · rw [pre_s, List.foldl_append, lif_0 (fun q => c q.2)]; exact L
      · obtain ⟨mi', ml', s1, L1⟩ := s_seekThirds (ro := ro) (d := d) O L hio ho
        refine ⟨_, _, s1, ih2 (by omega) mi' ml' ?_⟩
        rw [pre_s, List.foldl_append, lif_1 ⟨hio, Classical.not_not.1 c⟩]; exact L1
    · refine vc_X5_seekThrees_17 _ _ mi ml ?_
      simp (disch := omega) only [L.1.2.1.G, Nat.lt_irrefl, nI_ltI, nI_eq, nI_clamp, nI_1, xl_0, xg_0, xe_0, xe_m1, nI_0, xl_1, xl_2, xl_3, xl_4, xl_5, xl_6, xl_7, xl_8, xl_9, xl_10, xl_12, xl_20, xl_30, xl_32, xl_40, xl_41, xl_42, xl_48, xl_57, xl_59, xl_64, xl_97, xl_100, xl_122, xl_126, xl_128, xl_1000, xl_9999, xg_1, xg_2, xg_3, xg_4, xg_5, xg_6, xg_7, xg_8, xg_9, xg_10, xg_12, xg_20, xg_30, xg_32, xg_40, xg_41, xg_42, xg_48, xg_57, xg_59, xg_64, xg_97, xg_100, xg_122, xg_126, xg_128, xg_1000, xg_9999, xe_1, xe_2, xe_3, xe_4, xe_5, xe_6, xe_7, xe_8, xe_9, xe_10, xe_12, xe_20, xe_30, xe_32, xe_40, xe_41, xe_42, xe_48, xe_57, xe_59, xe_64, xe_97, xe_100, xe_122, xe_126, xe_128, xe_1000, xe_9999, true_implies, false_implies, not_true_eq_false, not_false_eq_true, and_true, true_and, forall_const, imp_self, lc_eq, implies_true, vin, Bool.true_eq_false, Bool.false_eq_true, false_and, and_false, or_false, false_or, or_true, true_or]
      refine ih mi ml ?_
      rw [pre_s, List.foldl_append]; exact L
    · rw [pre_nil (f := fun h => lif (i < h ∧ paP ti tl i h) (pre (on3 ti tl i h) (nG ti tl))) (fun j hj => by rw [lif_0]; omega)]; exact L
  · refine vc_X5_seekThrees_2 _ mi ml ?_
    simp (disch := omega) only [L.1.2.1.G, Nat.lt_irrefl, nI_ltI, nI_eq, nI_clamp, nI_1, xl_0, xg_0, xe_0, xe_m1, nI_0, xl_1, xl_2, xl_3, xl_4, xl_5, xl_6, xl_7, xl_8, xl_9, xl_10, xl_12, xl_20, xl_30, xl_32, xl_40, xl_41, xl_42, xl_48, xl_57, xl_59, xl_64, xl_97, xl_100, xl_122, xl_126, xl_128, xl_1000, xl_9999, xg_1, xg_2, xg_3, xg_4, xg_5, xg_6, xg_7, xg_8, xg_9, xg_10, xg_12, xg_20, xg_30, xg_32, xg_40, xg_41, xg_42, xg_48, xg_57, xg_59, xg_64, xg_97, xg_100, xg_122, xg_126, xg_128, xg_1000, xg_9999, xe_1, xe_2, xe_3, xe_4, xe_5, xe_6, xe_7, xe_8, xe_9, xe_10, xe_12, xe_20, xe_30, xe_32, xe_40, xe_41, xe_42, xe_48, xe_57, xe_59, xe_64, xe_97, xe_100, xe_122, xe_126, xe_128, xe_1000, xe_9999, true_implies, false_implies, not_true_eq_false, not_false_eq_true, and_true, true_and, forall_const, imp_self, lc_eq, implies_true, vin, Bool.true_eq_false, Bool.false_eq_true, false_and, and_false, or_false, false_or, or_true, true_or]
    exact hQ _ _ ⟨L.1, L.2.1⟩
theorem s_seek (O : okT ti) (C : cP ti tl mi ml) {n : Nat} (h1 : 1 ≤ n) (h3 : n ≤ 3) : ∃ mi' ml', cS ro (d + 8) 37 [.ref 38, .int (nI n), .int w] mi ml none mi' ml' ∧ cP ti tl mi' ml' ∧ mi' 38 4 = ((lsts ti tl n).foldl (mt w) (0, -1)).1 ∧ mi' 38 5 = ((lsts ti tl n).foldl (mt w) (0, -1)).2 := by
  refine ab_ex_q rfl rfl (fun Q hQ => vc_X5_seek_0 _ _ mi ml ?_)
  have C0 : cP ti tl (ab_ui (ab_ui (ab_ui mi 38 3 w) 38 4 0) 38 5 (-1)) ml := ((C.ui _ rfl).ui _ rfl).ui _ rfl
  have M0 : mOK w (0, -1) (ab_ui (ab_ui (ab_ui mi 38 3 w) 38 4 0) 38 5 (-1)) := ⟨by simp [ui_app], by simp [ui_app], by simp [ui_app]⟩
  generalize ab_ui (ab_ui (ab_ui mi 38 3 w) 38 4 0) 38 5 (-1) = mi0 at C0 M0 ⊢
  obtain ⟨ml1, s1, C1, _⟩ := s_goes (ro := ro) (d := d + 2) O C0 (s := 0) (by decide)
  refine ⟨_, _, _, s1, ?_⟩
  rw [pI_e0]
  refine ⟨fun c => ?_, fun c => ?_⟩
  · refine hQ _ _ ⟨C1, ?_, ?_⟩
    · unfold lsts; rw [lif_0 (P := goN ti tl 0) c]; exact M0.2.1
    · unfold lsts; rw [lif_0 (P := goN ti tl 0) c]; exact M0.2.2
  · have c' : goN ti tl 0 := Classical.not_not.1 c
    obtain ⟨mi2, ml2, s2, C2, M2, A2⟩ := s_findAlone (ro := ro) (d := d + 1) O C1 M0
    refine ⟨_, _, s2, ?_⟩
    simp (disch := omega) only [nI_ltI, nI_eq, nI_clamp, nI_1, xl_0, xg_0, xe_0, xe_m1, nI_0, xl_1, xl_2, xl_3, xl_4, xl_5, xl_6, xl_7, xl_8, xl_9, xl_10, xl_12, xl_20, xl_30, xl_32, xl_40, xl_41, xl_42, xl_48, xl_57, xl_59, xl_64, xl_97, xl_100, xl_122, xl_126, xl_128, xl_1000, xl_9999, xg_1, xg_2, xg_3, xg_4, xg_5, xg_6, xg_7, xg_8, xg_9, xg_10, xg_12, xg_20, xg_30, xg_32, xg_40, xg_41, xg_42, xg_48, xg_57, xg_59, xg_64, xg_97, xg_100, xg_122, xg_126, xg_128, xg_1000, xg_9999, xe_1, xe_2, xe_3, xe_4, xe_5, xe_6, xe_7, xe_8, xe_9, xe_10, xe_12, xe_20, xe_30, xe_32, xe_40, xe_41, xe_42, xe_48, xe_57, xe_59, xe_64, xe_97, xe_100, xe_122, xe_126, xe_128, xe_1000, xe_9999, true_implies, false_implies, not_true_eq_false, not_false_eq_true, and_true, true_and, forall_const, imp_self, lc_eq, implies_true, vin, Bool.true_eq_false, Bool.false_eq_true, false_and, and_false, or_false, false_or, or_true, true_or]
    refine ⟨fun e => ?_, fun e => ?_⟩
    · obtain ⟨mi3, ml3, s3, C3, M3⟩ := s_seekOnes (ro := ro) (d := d + 5) O C2 M2 A2
      refine ⟨_, _, s3, hQ _ _ ⟨C3, ?_, ?_⟩⟩
      · unfold lsts; rw [lif_1 c', if_pos e]; exact M3.2.1
      · unfold lsts; rw [lif_1 c', if_pos e]; exact M3.2.2
    · obtain ⟨mi3, ml3, s3, C3, M3, A3, R3⟩ := s_findPartners (ro := ro) (d := d + 1) O C2 M2 A2
      refine ⟨_, _, s3, fun e2 => ?_, fun e2 => ?_⟩
      · obtain ⟨mi4, ml4, s4, C4, M4⟩ := s_seekTwos (ro := ro) (d := d + 5) O ⟨C3, M3, A3, R3⟩
        refine ⟨_, _, s4, hQ _ _ ⟨C4, ?_, ?_⟩⟩
        · unfold lsts; rw [lif_1 c', if_neg e, if_pos e2]; exact M4.2.1
        · unfold lsts; rw [lif_1 c', if_neg e, if_pos e2]; exact M4.2.2
      · obtain ⟨mi4, ml4, s4, C4, M4⟩ := s_seekThrees (ro := ro) (d := d) O ⟨C3, M3, A3, R3⟩
        refine ⟨_, _, s4, hQ _ _ ⟨C4, ?_, ?_⟩⟩
        · unfold lsts; rw [lif_1 c', if_neg e, if_neg e2]; exact M4.2.1
        · unfold lsts; rw [lif_1 c', if_neg e, if_neg e2]; exact M4.2.2
end LE
