/-! Questions: votes, favour, gain. -/
section Q5
variable {ro : ab_E} {d : Nat} {ti mi vi : cM1} {tl ml vl : cM2}
abbrev yT (ti : cM1) (h g : Nat) : Bool := b3 (ti 37 h) g
theorem vt_eq (ti : cM1) (g : Nat) : vt ti (-1) 0 g = pcn (fun h => yT ti h g) 7 := by
  unfold vt
  apply pcn_congr
  intro o ho
  rw [if_neg (by rw [xe_m1 (by omega)]; exact id)]
theorem pass_eq (ti : cM1) : passP ti = mst (yT ti) := by
  funext g
  unfold passP mst
  rw [vt_eq]
/-- the votes, one of them turned -/
def yF (ti : cM1) (h0 g0 h g : Nat) : Bool := if h = h0 ∧ g = g0 then !yT ti h g else yT ti h g
theorem mstF (ti : cM1) {h0 g0 : Nat} (hh : h0 < 7) (hg0 : g0 < 6) : (fun g => 4 ≤ vt ti (nI h0) ((1 : Int32) <<< (nI g0 &&& 31)) g) = mst (yF ti h0 g0) := by
  funext g
  unfold vt mst
  congr 1
  apply pcn_congr
  intro o ho
  show _ = yF ti h0 g0 o g
  unfold yF
  by_cases e : o = h0
  · rw [if_pos (by rw [e]), b3_xor, b3_bit (by omega)]
    by_cases e2 : g = g0
    · rw [if_pos ⟨e, e2⟩]; simp [e2]
    · rw [if_neg (fun q => e2 q.2)]; simp [e2]
  · rw [if_neg (by rw [nI_eq (by omega) (by omega)]; exact e), if_neg (fun q => e q.1)]
theorem fold_rel {α β : Type} {R : α → β → Prop} {f : α → Nat × Nat → α} {g : β → Nat × Nat → β} : ∀ (l : List (Nat × Nat)), (∀ a ∈ l, ∀ x y, R x y → R (f x a) (g y a)) → ∀ x y, R x y → R (l.foldl f x) (l.foldl g y)
  | [], _, _, _, h => h
  | a :: l, hs, x, y, h => fold_rel l (fun b hb => hs b (List.mem_cons_of_mem _ hb)) _ _ (hs a (List.mem_cons_self ..) x y h)
theorem ordl_lt {p : Nat → Prop} : ∀ (left put t c : Nat), t < 2 ^ nV ti tl → ∀ a ∈ ordl ti tl p left put t c, a.1 < 2 ^ nV ti tl
  | 0, put, t, c, ht, a, ha => by
    have : a = (t, c) := by simpa [ordl] using ha
    rw [this]; exact ht
  | left + 1, put, t, c, ht, a, ha => by
    have ha : a ∈ (List.range (nV ti tl)).flatMap (fun g => if put.testBit g = true then [] else ordl ti tl p left (put ||| 2 ^ g) (tw ti tl p t g) (8 * c + g)) := ha
    obtain ⟨g, hg, h⟩ := List.mem_flatMap.1 ha
    have hg := List.mem_range.1 hg
    by_cases q : put.testBit g = true
    · rw [if_pos q] at h; cases h
    · rw [if_neg q] at h
      exact ordl_lt left _ _ _ (tw_lt2 ht hg) a h
theorem ordl_ne {p : Nat → Prop} : ∀ (left put t c : Nat), lf (nV ti tl) put = left → ∃ a, a ∈ ordl ti tl p left put t c
  | 0, put, t, c, _ => ⟨(t, c), by simp [ordl]⟩
  | left + 1, put, t, c, hl => by
    obtain ⟨g, hg, hb⟩ := lf_s (n := nV ti tl) (put := put) (by omega)
    have := lf_or hg hb
    obtain ⟨a, ha⟩ := ordl_ne (p := p) left (put ||| 2 ^ g) (tw ti tl p t g) (8 * c + g) (by omega)
    refine ⟨a, ?_⟩
    show a ∈ (List.range (nV ti tl)).flatMap (fun g => if put.testBit g = true then [] else ordl ti tl p left (put ||| 2 ^ g) (tw ti tl p t g) (8 * c + g))
    refine List.mem_flatMap.2 ⟨g, List.mem_range.2 hg, ?_⟩
    rw [if_neg (by rw [hb]; decide)]
    exact ha
/-- and of all -/
theorem fold_and (f : Nat × Nat → Int32) : ∀ (l : List (Nat × Nat)) (s : Int32) (i : Nat), b3 (l.foldl (fun s a => s &&& f a) s) i = (b3 s i && l.all (fun a => b3 (f a) i))
  | [], s, i => by simp
  | a :: l, s, i => by
    show b3 (l.foldl _ (s &&& f a)) i = _
    rw [fold_and f l, b3_and, List.all_cons, Bool.and_assoc]
theorem cnote_1 (x : Int32) : ∀ (l : List (Nat × Nat)) (z : nSt), (l.foldl (cnote x) z).1 = l.foldl (fun s a => s &&& nI a.1) z.1
  | [], _ => rfl
  | a :: l, z => cnote_1 x l _
theorem onote_1 : ∀ (l : List (Nat × Nat)) (z : oSt), (l.foldl onote z).1 = l.foldl (fun s a => s &&& nI a.1) z.1
  | [], _ => rfl
  | a :: l, z => onote_1 l _
theorem sure_eq {n : Nat} (hn : n ≤ 6) {l : List (Nat × Nat)} (hl : ∀ a ∈ l, a.1 < 2 ^ n) (hne : ∃ a, a ∈ l) : l.foldl (fun s a => s &&& nI a.1) (((1 : Int32) <<< (nI n &&& 31)) - 1) = l.foldl (fun s a => s &&& nI a.1) 63 := by
  have h6 : 2 ^ n ≤ 2 ^ 6 := Nat.pow_le_pow_right (by decide) hn
  apply b3_ext
  intro i hi
  rw [fold_and, fold_and]
  cases q : l.all (fun a => b3 (nI a.1) i) with
  | false => simp
  | true =>
    obtain ⟨a, ha⟩ := hne
    have h1 := List.all_eq_true.1 q a ha
    have h2 := hl a ha
    rw [b3_nI (by omega)] at h1
    have hin : i < n := by
      by_cases e : i < n
      · exact e
      · rw [Nat.testBit_lt_two_pow (Nat.lt_of_lt_of_le h2 (Nat.pow_le_pow_right (by decide) (by omega)))] at h1; cases h1
    rw [b3_low n (by omega) i hi, b3_63 i hi]
    simp [hin]; omega
theorem mo_eq (x : Int32) {l : List (Nat × Nat)} (hl : ∀ a ∈ l, a.1 < 64) (z : nSt) (z' : oSt) (h1 : z.2.1 = z'.2.1) (h2 : ∀ k, k < 64 → b6 z.2.2.1 k = z'.2.2 k) : (l.foldl (cnote x) z).2.1 = (l.foldl onote z').2.1 ∧ ∀ k, k < 64 → b6 (l.foldl (cnote x) z).2.2.1 k = (l.foldl onote z').2.2 k := by
  refine fold_rel (R := fun (z : nSt) (z' : oSt) => z.2.1 = z'.2.1 ∧ ∀ k, k < 64 → b6 z.2.2.1 k = z'.2.2 k) l (fun a ha x' y h => ⟨?_, fun k hk => ?_⟩) z z' ⟨h1, h2⟩
  · show x'.2.1 ||| nI a.1 = y.2.1 ||| nI a.1
    rw [h.1]
  · show b6 (x'.2.2.1 ||| ((1 : Int64) <<< ((nI a.1).toInt64 &&& 63))) k = (y.2.2 k || decide (k = a.1))
    rw [b6_orbit _ (hl a ha), h.2 k hk]
theorem lik_m {n : Nat} (hn : n ≤ 6) {x x' : Int32} (hx : ∀ g, b3 x' g = (decide (g < n) && b3 x g)) {t : Nat} (ht : t < 2 ^ n) : ∃ m, m ≤ 6 ∧ lik x t = nI m ∧ mlik x' t = nI m := by
  have h6 : 2 ^ n ≤ 2 ^ 6 := Nat.pow_le_pow_right (by decide) hn
  have tb : ∀ i, n ≤ i → t.testBit i = false := fun i hi => Nat.testBit_lt_two_pow (Nat.lt_of_lt_of_le ht (Nat.pow_le_pow_right (by decide) hi))
  have e : b3 (nI t &&& x') = b3 (nI t &&& x) := by
    funext g
    rw [b3_and, b3_and, hx, b3_nI (by omega)]
    by_cases q : g < n
    · simp [q]
    · rw [tb g (by omega)]; simp
  have z : ∀ i, n ≤ i → b3 (nI t &&& x) i = false := fun i hi => by rw [b3_and, b3_nI (by omega), tb i hi]; rfl
  refine ⟨pcn (b3 (nI t &&& x)) n, Nat.le_trans (pcn_le _ n) hn, ?_, ?_⟩
  · unfold lik; rw [pcn_cut (m := n) (by omega) (fun i h1 _ => z i h1)]
  · unfold mlik; rw [e, pcn_cut (m := n) (by omega) (fun i h1 _ => z i h1)]
theorem fa_eq {n : Nat} (hn : n ≤ 6) {x x' : Int32} (hx : ∀ g, b3 x' g = (decide (g < n) && b3 x g)) {l : List (Nat × Nat)} (hl : ∀ a ∈ l, a.1 < 2 ^ n) (hne : ∃ a, a ∈ l) (s m : Int32) (r : Int64) :
    (l.foldl (cnote x) (s, m, r, -1, 6, 0)).2.2.2.1 = (l.foldl (fnote x') (-1, -1, 0)).1 ∧ (l.foldl (cnote x) (s, m, r, -1, 6, 0)).2.2.2.2.1 = (l.foldl (fnote x') (-1, -1, 0)).2.1 ∧ (l.foldl (cnote x) (s, m, r, -1, 6, 0)).2.2.2.2.2 = (l.foldl (fnote x') (-1, -1, 0)).2.2 := by
  match l, hl, hne with
  | [], _, ⟨a, ha⟩ => cases ha
  | a :: l, hl, _ =>
    have stepR : ∀ b ∈ a :: l, ∀ (z : nSt) (y : fSt), (z.2.2.2.1 = y.1 ∧ z.2.2.2.2.2 = y.2.2 ∧ ∃ q, q ≤ 6 ∧ y.2.1 = nI q ∧ z.2.2.2.2.1 = nI q) → ((cnote x z b).2.2.2.1 = (fnote x' y b).1 ∧ (cnote x z b).2.2.2.2.2 = (fnote x' y b).2.2 ∧ ∃ q, q ≤ 6 ∧ (fnote x' y b).2.1 = nI q ∧ (cnote x z b).2.2.2.2.1 = nI q) := by
      rintro b hb z y ⟨h1, h2, q, hq, h3, h4⟩
      obtain ⟨k, hk, e1, e2⟩ := lik_m hn hx (hl b hb)
      unfold cnote fnote
      simp only [e1, e2, h1, h2, h3, h4, xl_0 (show q < 2 ^ 31 by omega), false_or]
      refine ⟨trivial, trivial, ?_⟩
      by_cases c : nI k < nI q
      · exact ⟨k, hk, by rw [if_pos c], by rw [if_pos c]⟩
      · exact ⟨q, hq, by rw [if_neg c], by rw [if_neg c]⟩
    obtain ⟨k, hk, e1, e2⟩ := lik_m hn hx (hl a (List.mem_cons_self ..))
    have first : ((cnote x (s, m, r, -1, 6, 0) a).2.2.2.1 = (fnote x' (-1, -1, 0) a).1 ∧ (cnote x (s, m, r, -1, 6, 0) a).2.2.2.2.2 = (fnote x' (-1, -1, 0) a).2.2 ∧ ∃ q, q ≤ 6 ∧ (fnote x' (-1, -1, 0) a).2.1 = nI q ∧ (cnote x (s, m, r, -1, 6, 0) a).2.2.2.2.1 = nI q) := by
      unfold cnote fnote
      simp only [e1, e2, m1_neg, true_or, if_true]
      refine ⟨trivial, trivial, k, hk, rfl, ?_⟩
      by_cases c : nI k < 6
      · rw [if_pos c]
      · have c' : ¬ k < 6 := by rw [xl_6 (by omega)] at c; exact c
        have : k = 6 := by omega
        rw [if_neg c, this]; rfl
    have fin := fold_rel (R := fun (z : nSt) (y : fSt) => z.2.2.2.1 = y.1 ∧ z.2.2.2.2.2 = y.2.2 ∧ ∃ q, q ≤ 6 ∧ y.2.1 = nI q ∧ z.2.2.2.2.1 = nI q) (f := cnote x) (g := fnote x') l (fun b hb => stepR b (List.mem_cons_of_mem _ hb)) _ _ first
    obtain ⟨h1, h2, q, _, h3, h4⟩ := fin
    exact ⟨h1, h4.trans h3.symm, h2⟩
theorem op_votes (x : Int32) : OP ro 124 231 [.int x] := OPq (fun ti tl O OM => by
  have hV := nV_le ti tl
  have h6 : 2 ^ nV ti tl ≤ 2 ^ 6 := Nat.pow_le_pow_right (by decide) hV.1
  by_cases c : ∃ w, w < 3 + 1 ∧ x = nI w
  · have cc := (rg (n := 3) (by decide)).2 c
    by_cases c3 : x = 3
    · refine ⟨nI (pln ti tl (passP ti) (nV ti tl)), fun mi ml R => ?_, fun vi vl mi ml H => ?_⟩
      · obtain ⟨mi1, ml1, s1, C1⟩ := s_settle (ro := ro) (d := 32) O R.1 R.2
        obtain ⟨mi2, ml2, s2, C2, _⟩ := s_inPlain (ro := ro) (d := 32) O C1 (-1) 0
        exact ab_ex_q rfl rfl (fun Q hQ => vc_X11_votes_0 _ mi ml ⟨_, _, s1, fun _ => ⟨_, _, _, s2, hQ _ _ C2.r⟩, fun q => absurd c3 q⟩)
      · obtain ⟨mi1, ml1, s1, M1, V1⟩ := s_findGoes (ro := ro) (d := 34) O OM (H.t 0)
        refine ab_ex_q rfl rfl (fun Q hQ => vc_X12_votes_0 _ mi ml ⟨_, _, _, s_withinN _ 3 (by decide), ?_⟩)
        rw [pI_1 c]
        rw [pass_eq] at hQ
        exact ⟨fun q => (by cases q), fun _ => ⟨_, _, s1, fun _ => ⟨_, _, _, s_firstResult O V1, hQ _ _ M1.1⟩, fun q => absurd c3 q⟩⟩
    · -- both go through the orders
      generalize hl : ordl ti tl (mst (yT ti)) (nV ti tl) 0 0 0 = l
      have hlt : ∀ a ∈ l, a.1 < 2 ^ nV ti tl := fun a ha => ordl_lt (p := mst (yT ti)) (nV ti tl) 0 0 0 (Nat.two_pow_pos _) a (hl ▸ ha)
      have hlt6 : ∀ a ∈ l, a.1 < 64 := fun a ha => by have := hlt a ha; omega
      have hne : ∃ a, a ∈ l := hl ▸ ordl_ne (p := mst (yT ti)) (nV ti tl) 0 0 0 (lf_00 _)
      obtain ⟨mo1, mo2⟩ := mo_eq 0 hlt6 (((1 : Int32) <<< (nI (nV ti tl) &&& 31)) - 1, 0, 0, -1, 6, 0) (63, 0, fun _ => false) rfl (fun k _ => b6_0 k)
      have hs := sure_eq hV.1 hlt hne
      refine ⟨if x = 0 then (l.foldl onote (63, 0, fun _ => false)).1 else if x = 1 then (l.foldl onote (63, 0, fun _ => false)).2.1 else nI (pcn (l.foldl onote (63, 0, fun _ => false)).2.2 64), fun mi ml R => ?_, fun vi vl mi ml H => ?_⟩
      · obtain ⟨mi1, ml1, s1, C1⟩ := s_settle (ro := ro) (d := 32) O R.1 R.2
        obtain ⟨mi2, ml2, s2, C2, N2⟩ := s_tryOrders (ro := ro) (d := 25) O C1 0
        rw [pass_eq, hl] at N2
        obtain ⟨_, n4, n5, n6, _⟩ := N2
        refine ab_ex_q rfl rfl (fun Q hQ => vc_X11_votes_0 _ mi ml ⟨_, _, s1, fun q => absurd q c3, fun _ => ⟨fun q => absurd q cc.1, fun _ => ⟨fun q => absurd q cc.2, fun _ => ⟨_, _, s2, fun c0 => ?_, fun c0 => ⟨fun c1 => ?_, fun c1 => ?_⟩⟩⟩⟩⟩)
        · rw [if_pos c0] at hQ
          rw [n4, cnote_1, hs, ← onote_1 l (63, 0, fun _ => false)]
          exact hQ _ _ C2.r
        · rw [if_neg c0, if_pos c1] at hQ
          rw [n5, mo1]
          exact hQ _ _ C2.r
        · rw [if_neg c0, if_neg c1] at hQ
          rw [n6]
          refine ⟨_, _, _, s_bc6 _, ?_⟩
          rw [pcn_congr mo2]
          exact hQ _ _ C2.r
      · obtain ⟨mi1, ml1, s1, M1, V1⟩ := s_findGoes (ro := ro) (d := 34) O OM (H.t 0)
        refine ab_ex_q rfl rfl (fun Q hQ => vc_X12_votes_0 _ mi ml ⟨_, _, _, s_withinN _ 3 (by decide), ?_⟩)
        rw [pI_1 c]
        refine ⟨fun q => (by cases q), fun _ => ⟨_, _, s1, fun q => absurd q c3, fun _ => ?_⟩⟩
        refine up0 (n := 64) (F := fun i => ∀ mi, vP ti tl vi vl (yT ti) mi ml1 → (∀ k, k < i → mi 80 k = 0) → W_X12_votes_32 (cs ro 39) ro Q x (nI i) mi ml1) (fun i hi ih mi V Z => ?_) (fun mi V Z => ?_) mi1 ⟨M1, V1⟩ (fun k hk => absurd hk (Nat.not_lt_zero k))
        · refine vc_X12_votes_32 _ _ mi ml1 ?_
          simp (disch := omega) only [hi, nar_0, nI_ltI, nI_eq, nI_clamp, nI_1, xl_0, xg_0, xe_0, xe_m1, nI_0, xl_1, xl_2, xl_3, xl_4, xl_5, xl_6, xl_7, xl_8, xl_9, xl_10, xl_12, xl_20, xl_30, xl_32, xl_40, xl_41, xl_42, xl_48, xl_57, xl_59, xl_64, xl_97, xl_100, xl_122, xl_126, xl_128, xl_1000, xl_9999, xg_1, xg_2, xg_3, xg_4, xg_5, xg_6, xg_7, xg_8, xg_9, xg_10, xg_12, xg_20, xg_30, xg_32, xg_40, xg_41, xg_42, xg_48, xg_57, xg_59, xg_64, xg_97, xg_100, xg_122, xg_126, xg_128, xg_1000, xg_9999, xe_1, xe_2, xe_3, xe_4, xe_5, xe_6, xe_7, xe_8, xe_9, xe_10, xe_12, xe_20, xe_30, xe_32, xe_40, xe_41, xe_42, xe_48, xe_57, xe_59, xe_64, xe_97, xe_100, xe_122, xe_126, xe_128, xe_1000, xe_9999, true_implies, false_implies, not_true_eq_false, not_false_eq_true, and_true, true_and, forall_const, imp_self, lc_eq, implies_true, vin, Bool.true_eq_false, Bool.false_eq_true, false_and, and_false, or_false, false_or, or_true, true_or]
          refine ih _ (V.ui _ rfl rfl (by decide) (by decide) (by decide) (fun h => by cases h.1)) (fun k hk => ?_)
          rw [ui_app, if_pos rfl]
          by_cases e : k = i
          · rw [if_pos e]
          · rw [if_neg e]; exact Z k (by omega)
        · refine vc_X12_votes_32 _ _ mi ml1 ?_
          have V2 : vP ti tl vi vl (yT ti) (ab_ui (ab_ui mi 40 63 63) 40 64 0) ml1 := (V.ui _ rfl rfl (by decide) (by decide) (by decide) (by decide)).ui _ rfl rfl (by decide) (by decide) (by decide) (by decide)
          have N2 : oOK (63, 0, fun _ => false) (ab_ui (ab_ui mi 40 63 63) 40 64 0) := ⟨by simp [ui_app], by simp [ui_app], fun k hk => by simp [ui_app, Z k hk]⟩
          obtain ⟨mi3, ml3, s3, V3, N3⟩ := s_orders (ro := ro) (d := 36 - nV ti tl) O (nV ti tl) 0 0 0 (lf_00 _) (by decide) (Nat.two_pow_pos _) _ ml1 _ V2 N2
          rw [show 36 - nV ti tl + 3 + nV ti tl = 39 by omega] at s3
          rw [hl] at N3
          simp (disch := omega) only [Nat.lt_irrefl, nI_ltI, nI_eq, nI_clamp, nI_1, xl_0, xg_0, xe_0, xe_m1, nI_0, xl_1, xl_2, xl_3, xl_4, xl_5, xl_6, xl_7, xl_8, xl_9, xl_10, xl_12, xl_20, xl_30, xl_32, xl_40, xl_41, xl_42, xl_48, xl_57, xl_59, xl_64, xl_97, xl_100, xl_122, xl_126, xl_128, xl_1000, xl_9999, xg_1, xg_2, xg_3, xg_4, xg_5, xg_6, xg_7, xg_8, xg_9, xg_10, xg_12, xg_20, xg_30, xg_32, xg_40, xg_41, xg_42, xg_48, xg_57, xg_59, xg_64, xg_97, xg_100, xg_122, xg_126, xg_128, xg_1000, xg_9999, xe_1, xe_2, xe_3, xe_4, xe_5, xe_6, xe_7, xe_8, xe_9, xe_10, xe_12, xe_20, xe_30, xe_32, xe_40, xe_41, xe_42, xe_48, xe_57, xe_59, xe_64, xe_97, xe_100, xe_122, xe_126, xe_128, xe_1000, xe_9999, true_implies, false_implies, not_true_eq_false, not_false_eq_true, and_true, true_and, forall_const, imp_self, lc_eq, implies_true, vin, Bool.true_eq_false, Bool.false_eq_true, false_and, and_false, or_false, false_or, or_true, true_or]
          refine ⟨_, _, s3, ?_⟩
          refine up0 (n := 64) (F := fun i => W_X12_votes_72 (cs ro 39) ro Q x (nI (pcn (l.foldl onote (63, 0, fun _ => false)).2.2 i)) (nI i) mi3 ml3) (fun i hi ih => ?_) ?_
          · refine vc_X12_votes_72 _ _ _ mi3 ml3 ?_
            simp (disch := omega) only [hi, N3.2.2 i hi, bI_0, Int32.add_zero, nI_ltI, nI_eq, nI_clamp, nI_1, xl_0, xg_0, xe_0, xe_m1, nI_0, xl_1, xl_2, xl_3, xl_4, xl_5, xl_6, xl_7, xl_8, xl_9, xl_10, xl_12, xl_20, xl_30, xl_32, xl_40, xl_41, xl_42, xl_48, xl_57, xl_59, xl_64, xl_97, xl_100, xl_122, xl_126, xl_128, xl_1000, xl_9999, xg_1, xg_2, xg_3, xg_4, xg_5, xg_6, xg_7, xg_8, xg_9, xg_10, xg_12, xg_20, xg_30, xg_32, xg_40, xg_41, xg_42, xg_48, xg_57, xg_59, xg_64, xg_97, xg_100, xg_122, xg_126, xg_128, xg_1000, xg_9999, xe_1, xe_2, xe_3, xe_4, xe_5, xe_6, xe_7, xe_8, xe_9, xe_10, xe_12, xe_20, xe_30, xe_32, xe_40, xe_41, xe_42, xe_48, xe_57, xe_59, xe_64, xe_97, xe_100, xe_122, xe_126, xe_128, xe_1000, xe_9999, true_implies, false_implies, not_true_eq_false, not_false_eq_true, and_true, true_and, forall_const, imp_self, lc_eq, implies_true, vin, Bool.true_eq_false, Bool.false_eq_true, false_and, and_false, or_false, false_or, or_true, true_or]
            refine ⟨fun q => ?_, fun q => ?_⟩
            · rw [pcn_s0 q]; exact ih
            · rw [pcn_s1 (f := (l.foldl onote (63, 0, fun _ => false)).2.2) (by simpa using q)]; exact ih
          · refine vc_X12_votes_72 _ _ _ mi3 ml3 ?_
            simp (disch := omega) only [Nat.lt_irrefl, N3.1, N3.2.1, nI_ltI, nI_eq, nI_clamp, nI_1, xl_0, xg_0, xe_0, xe_m1, nI_0, xl_1, xl_2, xl_3, xl_4, xl_5, xl_6, xl_7, xl_8, xl_9, xl_10, xl_12, xl_20, xl_30, xl_32, xl_40, xl_41, xl_42, xl_48, xl_57, xl_59, xl_64, xl_97, xl_100, xl_122, xl_126, xl_128, xl_1000, xl_9999, xg_1, xg_2, xg_3, xg_4, xg_5, xg_6, xg_7, xg_8, xg_9, xg_10, xg_12, xg_20, xg_30, xg_32, xg_40, xg_41, xg_42, xg_48, xg_57, xg_59, xg_64, xg_97, xg_100, xg_122, xg_126, xg_128, xg_1000, xg_9999, xe_1, xe_2, xe_3, xe_4, xe_5, xe_6, xe_7, xe_8, xe_9, xe_10, xe_12, xe_20, xe_30, xe_32, xe_40, xe_41, xe_42, xe_48, xe_57, xe_59, xe_64, xe_97, xe_100, xe_122, xe_126, xe_128, xe_1000, xe_9999, true_implies, false_implies, not_true_eq_false, not_false_eq_true, and_true, true_and, forall_const, imp_self, lc_eq, implies_true, vin, Bool.true_eq_false, Bool.false_eq_true, false_and, and_false, or_false, false_or, or_true, true_or]
            refine ⟨fun c0 => ?_, fun c0 => ⟨fun c1 => ?_, fun c1 => ?_⟩⟩
            · rw [if_pos c0] at hQ; exact hQ _ _ V3.1.1
            · rw [if_neg c0, if_pos c1] at hQ; exact hQ _ _ V3.1.1
            · rw [if_neg c0, if_neg c1] at hQ; exact hQ _ _ V3.1.1
  · refine ⟨-1, fun mi ml R => ?_, fun vi vl mi ml H => ?_⟩
    · obtain ⟨mi1, ml1, s1, C1⟩ := s_settle (ro := ro) (d := 32) O R.1 R.2
      exact ab_ex_q rfl rfl (fun Q hQ => vc_X11_votes_0 _ mi ml ⟨_, _, s1, fun q => absurd ⟨3, by decide, q⟩ c, fun _ => ⟨fun _ => hQ _ _ C1.r, fun c1 => ⟨fun _ => hQ _ _ C1.r, fun c2 => absurd ((rg (n := 3) (by decide)).1 ⟨c1, c2⟩) c⟩⟩⟩)
    · refine ab_ex_q rfl rfl (fun Q hQ => vc_X12_votes_0 _ mi ml ⟨_, _, _, s_withinN _ 3 (by decide), ?_⟩)
      rw [pI_0 c]
      exact ⟨fun _ => hQ _ _ (H.t 0), fun q => absurd rfl q⟩)
theorem op_favour (x y : Int32) : OP ro 125 235 [.int x, .int y] := OPq (fun ti tl O OM => by
  have hV := nV_le ti tl
  have h6 : 2 ^ nV ti tl ≤ 2 ^ 6 := Nat.pow_le_pow_right (by decide) hV.1
  by_cases cx : ∃ w, w < 6 + 1 ∧ x = nI w
  · obtain ⟨h, hh, rfl⟩ := id cx
    by_cases cy : ∃ w, w < 2 + 1 ∧ y = nI w
    · generalize hl : ordl ti tl (mst (yT ti)) (nV ti tl) 0 0 0 = l
      have hlt : ∀ a ∈ l, a.1 < 2 ^ nV ti tl := fun a ha => ordl_lt (p := mst (yT ti)) (nV ti tl) 0 0 0 (Nat.two_pow_pos _) a (hl ▸ ha)
      have hne : ∃ a, a ∈ l := hl ▸ ordl_ne (p := mst (yT ti)) (nV ti tl) 0 0 0 (lf_00 _)
      refine ⟨if y = 0 then (l.foldl (cnote (ti 37 h)) (((1 : Int32) <<< (nI (nV ti tl) &&& 31)) - 1, 0, 0, -1, 6, 0)).2.2.2.1 else if y = 1 then (l.foldl (cnote (ti 37 h)) (((1 : Int32) <<< (nI (nV ti tl) &&& 31)) - 1, 0, 0, -1, 6, 0)).2.2.2.2.1 else (l.foldl (cnote (ti 37 h)) (((1 : Int32) <<< (nI (nV ti tl) &&& 31)) - 1, 0, 0, -1, 6, 0)).2.2.2.2.2, fun mi ml R => ?_, fun vi vl mi ml H => ?_⟩
      · obtain ⟨mi1, ml1, s1, C1⟩ := s_settle (ro := ro) (d := 32) O R.1 R.2
        obtain ⟨mi2, ml2, s2, C2, N2⟩ := s_tryOrders (ro := ro) (d := 25) O C1 (ti 37 h)
        rw [pass_eq, hl] at N2
        obtain ⟨_, _, _, _, n8, n9, n10⟩ := N2
        refine ab_ex_q rfl rfl (fun Q hQ => vc_X11_favour_0 _ _ mi ml ⟨_, _, s1, _, _, _, s_isHouseC _, ?_⟩)
        rw [pI_1 ⟨h, hh, rfl⟩]
        refine ⟨fun q => (by cases q), fun _ => ?_⟩
        simp (disch := omega) only [C1.1.e37, nI_ltI, nI_eq, nI_clamp, nI_1, xl_0, xg_0, xe_0, xe_m1, nI_0, xl_1, xl_2, xl_3, xl_4, xl_5, xl_6, xl_7, xl_8, xl_9, xl_10, xl_12, xl_20, xl_30, xl_32, xl_40, xl_41, xl_42, xl_48, xl_57, xl_59, xl_64, xl_97, xl_100, xl_122, xl_126, xl_128, xl_1000, xl_9999, xg_1, xg_2, xg_3, xg_4, xg_5, xg_6, xg_7, xg_8, xg_9, xg_10, xg_12, xg_20, xg_30, xg_32, xg_40, xg_41, xg_42, xg_48, xg_57, xg_59, xg_64, xg_97, xg_100, xg_122, xg_126, xg_128, xg_1000, xg_9999, xe_1, xe_2, xe_3, xe_4, xe_5, xe_6, xe_7, xe_8, xe_9, xe_10, xe_12, xe_20, xe_30, xe_32, xe_40, xe_41, xe_42, xe_48, xe_57, xe_59, xe_64, xe_97, xe_100, xe_122, xe_126, xe_128, xe_1000, xe_9999, true_implies, false_implies, not_true_eq_false, not_false_eq_true, and_true, true_and, forall_const, imp_self, lc_eq, implies_true, vin, Bool.true_eq_false, Bool.false_eq_true, false_and, and_false, or_false, false_or, or_true, true_or]
        refine ⟨_, _, s2, ?_⟩
        rw [n8, n9, n10]
        refine ⟨fun c0 => ?_, fun c0 => ⟨fun c1 => ?_, fun c1 => ⟨fun c2 => ?_, fun c2 => ?_⟩⟩⟩
        · rw [if_pos c0] at hQ; exact hQ _ _ C2.r
        · rw [if_neg c0, if_pos c1] at hQ; exact hQ _ _ C2.r
        · rw [if_neg c0, if_neg c1] at hQ; exact hQ _ _ C2.r
        · exfalso
          obtain ⟨k, hk, e⟩ := cy
          match k, hk with
          | 0, _ => exact c0 e
          | 1, _ => exact c1 e
          | 2, _ => exact c2 e
      · obtain ⟨mi1, ml1, s1, M1, V1⟩ := s_findGoes (ro := ro) (d := 34) O OM (H.t 0)
        have V2 : vP ti tl vi vl (yT ti) (ab_ui (ab_ui (ab_ui mi1 40 66 (-1)) 40 67 (-1)) 40 68 0) ml1 := ((show vP ti tl vi vl (yT ti) mi1 ml1 from ⟨M1, V1⟩).ui _ rfl rfl (by decide) (by decide) (by decide) (by decide) |>.ui _ rfl rfl (by decide) (by decide) (by decide) (by decide)).ui _ rfl rfl (by decide) (by decide) (by decide) (by decide)
        have N2 : fnOK (-1, -1, 0) (ab_ui (ab_ui (ab_ui mi1 40 66 (-1)) 40 67 (-1)) 40 68 0) := ⟨by simp [ui_app], by simp [ui_app], by simp [ui_app]⟩
        generalize hmi2 : ab_ui (ab_ui (ab_ui mi1 40 66 (-1)) 40 67 (-1)) 40 68 0 = mi2 at *
        obtain ⟨r, s2, hr⟩ := s_wantedBy (ro := ro) (d := 37) (ml := ml1) O V2.2 hh
        obtain ⟨mi3, ml3, s3, V3, N3⟩ := s_favours (ro := ro) (d := 36 - nV ti tl) (x := r) O (nV ti tl) 0 0 0 (lf_00 _) (by decide) (Nat.two_pow_pos _) _ ml1 _ V2 N2
        rw [show 36 - nV ti tl + 3 + nV ti tl = 39 by omega] at s3
        rw [hl] at N3
        obtain ⟨f1, f2, f3⟩ := fa_eq hV.1 (x := ti 37 h) (x' := r) hr hlt hne (((1 : Int32) <<< (nI (nV ti tl) &&& 31)) - 1) 0 0
        refine ab_ex_q rfl rfl (fun Q hQ => vc_X12_favour_0 _ _ mi ml ⟨_, _, _, s_withinN _ 6 (by decide), ?_⟩)
        rw [pI_1 cx]
        refine ⟨fun q => (by cases q), fun _ => ⟨_, _, _, s_withinN _ 2 (by decide), ?_⟩⟩
        rw [pI_1 cy]
        refine ⟨fun q => (by cases q), fun _ => ⟨_, _, s1, ?_⟩⟩
        rw [hmi2]
        refine ⟨_, _, _, s2, _, _, s3, ?_⟩
        rw [N3.1, N3.2.1, N3.2.2, ← f1, ← f2, ← f3]
        refine ⟨fun c0 => ?_, fun c0 => ⟨fun c1 => ?_, fun c1 => ?_⟩⟩
        · rw [if_pos c0] at hQ; exact hQ _ _ V3.1.1
        · rw [if_neg c0, if_pos c1] at hQ; exact hQ _ _ V3.1.1
        · rw [if_neg c0, if_neg c1] at hQ; exact hQ _ _ V3.1.1
    · refine ⟨-1, fun mi ml R => ?_, fun vi vl mi ml H => ?_⟩
      · obtain ⟨mi1, ml1, s1, C1⟩ := s_settle (ro := ro) (d := 32) O R.1 R.2
        obtain ⟨mi2, ml2, s2, C2, N2⟩ := s_tryOrders (ro := ro) (d := 25) O C1 (ti 37 h)
        refine ab_ex_q rfl rfl (fun Q hQ => vc_X11_favour_0 _ _ mi ml ⟨_, _, s1, _, _, _, s_isHouseC _, ?_⟩)
        rw [pI_1 ⟨h, hh, rfl⟩]
        refine ⟨fun q => (by cases q), fun _ => ?_⟩
        simp (disch := omega) only [C1.1.e37, nI_ltI, nI_eq, nI_clamp, nI_1, xl_0, xg_0, xe_0, xe_m1, nI_0, xl_1, xl_2, xl_3, xl_4, xl_5, xl_6, xl_7, xl_8, xl_9, xl_10, xl_12, xl_20, xl_30, xl_32, xl_40, xl_41, xl_42, xl_48, xl_57, xl_59, xl_64, xl_97, xl_100, xl_122, xl_126, xl_128, xl_1000, xl_9999, xg_1, xg_2, xg_3, xg_4, xg_5, xg_6, xg_7, xg_8, xg_9, xg_10, xg_12, xg_20, xg_30, xg_32, xg_40, xg_41, xg_42, xg_48, xg_57, xg_59, xg_64, xg_97, xg_100, xg_122, xg_126, xg_128, xg_1000, xg_9999, xe_1, xe_2, xe_3, xe_4, xe_5, xe_6, xe_7, xe_8, xe_9, xe_10, xe_12, xe_20, xe_30, xe_32, xe_40, xe_41, xe_42, xe_48, xe_57, xe_59, xe_64, xe_97, xe_100, xe_122, xe_126, xe_128, xe_1000, xe_9999, true_implies, false_implies, not_true_eq_false, not_false_eq_true, and_true, true_and, forall_const, imp_self, lc_eq, implies_true, vin, Bool.true_eq_false, Bool.false_eq_true, false_and, and_false, or_false, false_or, or_true, true_or]
        exact ⟨_, _, s2, fun q => absurd q (no4 cy (k := 0) (by decide)), fun _ => ⟨fun q => absurd q (no4 cy (k := 1) (by decide)), fun _ => ⟨fun q => absurd q (no4 cy (k := 2) (by decide)), fun _ => hQ _ _ C2.r⟩⟩⟩
      · refine ab_ex_q rfl rfl (fun Q hQ => vc_X12_favour_0 _ _ mi ml ⟨_, _, _, s_withinN _ 6 (by decide), ?_⟩)
        rw [pI_1 cx]
        refine ⟨fun q => (by cases q), fun _ => ⟨_, _, _, s_withinN _ 2 (by decide), ?_⟩⟩
        rw [pI_0 cy]
        exact ⟨fun _ => hQ _ _ (H.t 0), fun q => absurd rfl q⟩
  · refine ⟨-1, fun mi ml R => ?_, fun vi vl mi ml H => ?_⟩
    · obtain ⟨mi1, ml1, s1, C1⟩ := s_settle (ro := ro) (d := 32) O R.1 R.2
      refine ab_ex_q rfl rfl (fun Q hQ => vc_X11_favour_0 _ _ mi ml ⟨_, _, s1, _, _, _, s_isHouseC _, ?_⟩)
      rw [pI_0 cx]
      exact ⟨fun _ => hQ _ _ C1.r, fun q => absurd rfl q⟩
    · refine ab_ex_q rfl rfl (fun Q hQ => vc_X12_favour_0 _ _ mi ml ⟨_, _, _, s_withinN _ 6 (by decide), ?_⟩)
      rw [pI_0 cx]
      exact ⟨fun _ => hQ _ _ (H.t 0), fun q => absurd rfl q⟩)
end Q5
