/-! What lasts, and what the room is, read off a memory (ti, tl) at the class's cells. -/
def lsI (k j : Nat) : Bool := Nat.beq k 1 || (Nat.beq k 2 && Nat.beq j 2) || Nat.beq k 3 || Nat.beq k 4 || (Nat.beq k 9 && Nat.beq j 3) || (Nat.ble 12 k && Nat.ble k 17) || (Nat.ble 18 k && Nat.ble k 21) || Nat.beq k 24 || Nat.beq k 37 || Nat.ble 40 k
def lsL (k j : Nat) : Bool := (Nat.beq k 9 && Nat.beq j 2) || Nat.beq k 10 || Nat.beq k 11 || Nat.beq k 22 || Nat.beq k 23 || Nat.ble 40 k
def lmI (k j : Nat) : Bool := (Nat.beq k 40 && (Nat.beq j 2 || Nat.beq j 12 || Nat.beq j 20 || Nat.beq j 30 || Nat.beq j 34 || Nat.beq j 35 || Nat.beq j 69)) || Nat.beq k 41 || Nat.beq k 46 || (Nat.ble 52 k && Nat.ble k 61) || Nat.beq k 78 || Nat.beq k 81 || Nat.beq k 82
def lmL (k j : Nat) : Bool := Nat.beq k 45 || Nat.beq k 47 || Nat.beq k 48 || Nat.beq k 55 || Nat.beq k 56 || Nat.beq k 62 || Nat.beq k 63
/-- the lasting cells of the class, and all of the reference's, are those of (ti, tl) -/
def eqP (ti : cM1) (tl : cM2) (mi : cM1) (ml : cM2) : Prop := (∀ k j, lsI k j = true → mi k j = ti k j) ∧ (∀ k j, lsL k j = true → ml k j = tl k j)
/-- the lasting cells of the reference are those of (ti, tl), all of the class's those of (vi, vl) -/
def eqM (ti : cM1) (tl : cM2) (vi : cM1) (vl : cM2) (mi : cM1) (ml : cM2) : Prop := (∀ k j, lmI k j = true → mi k j = ti k j) ∧ (∀ k j, lmL k j = true → ml k j = tl k j) ∧ (∀ k, k < 40 → mi k = vi k) ∧ (∀ k, k < 40 → ml k = vl k)
section EQ
variable {ti mi vi : cM1} {tl ml vl : cM2}
theorem eqP.rf (ti : cM1) (tl : cM2) : eqP ti tl ti tl := ⟨fun _ _ _ => rfl, fun _ _ _ => rfl⟩
theorem eqP.ui (H : eqP ti tl mi ml) {k j : Nat} (v : Int32) (h : lsI k j = false) : eqP ti tl (ab_ui mi k j v) ml := by
  refine ⟨fun a b hab => ?_, H.2⟩
  rw [ui_app]
  by_cases e : a = k
  · by_cases e2 : b = j
    · rw [e, e2, h] at hab; cases hab
    · rw [if_pos e, if_neg e2]; exact H.1 a b hab
  · rw [if_neg e]; exact H.1 a b hab
theorem eqP.ul (H : eqP ti tl mi ml) {k j : Nat} (v : Int64) (h : lsL k j = false) : eqP ti tl mi (ab_ul ml k j v) := by
  refine ⟨H.1, fun a b hab => ?_⟩
  rw [ul_app]
  by_cases e : a = k
  · by_cases e2 : b = j
    · rw [e, e2, h] at hab; cases hab
    · rw [if_pos e, if_neg e2]; exact H.2 a b hab
  · rw [if_neg e]; exact H.2 a b hab
theorem eqP.op (H : eqP ti tl mi ml) (a b : Int64) : eqP ti tl mi (op ml a b) := (H.ul a rfl).ul b rfl
theorem eqM.ui (H : eqM ti tl vi vl mi ml) {k j : Nat} (v : Int32) (h : lmI k j = false) (hk : 40 ≤ k) : eqM ti tl vi vl (ab_ui mi k j v) ml := by
  refine ⟨fun a b hab => ?_, H.2.1, fun a ha => ?_, H.2.2.2⟩
  · rw [ui_app]
    by_cases e : a = k
    · by_cases e2 : b = j
      · rw [e, e2, h] at hab; cases hab
      · rw [if_pos e, if_neg e2]; exact H.1 a b hab
    · rw [if_neg e]; exact H.1 a b hab
  · rw [← H.2.2.1 a ha]
    funext b
    rw [ui_app, if_neg (by omega)]
theorem eqM.ul (H : eqM ti tl vi vl mi ml) {k j : Nat} (v : Int64) (h : lmL k j = false) (hk : 40 ≤ k) : eqM ti tl vi vl mi (ab_ul ml k j v) := by
  refine ⟨H.1, fun a b hab => ?_, H.2.2.1, fun a ha => ?_⟩
  · rw [ul_app]
    by_cases e : a = k
    · by_cases e2 : b = j
      · rw [e, e2, h] at hab; cases hab
      · rw [if_pos e, if_neg e2]; exact H.2.1 a b hab
    · rw [if_neg e]; exact H.2.1 a b hab
  · rw [← H.2.2.2 a ha]
    funext b
    rw [ul_app, if_neg (by omega)]
theorem eqP.e1 (H : eqP ti tl mi ml) : mi 1 = ti 1 := funext (fun j => H.1 1 j rfl)
theorem eqP.e3 (H : eqP ti tl mi ml) : mi 3 = ti 3 := funext (fun j => H.1 3 j rfl)
theorem eqP.e4 (H : eqP ti tl mi ml) : mi 4 = ti 4 := funext (fun j => H.1 4 j rfl)
theorem eqP.e12 (H : eqP ti tl mi ml) : mi 12 = ti 12 := funext (fun j => H.1 12 j rfl)
theorem eqP.e13 (H : eqP ti tl mi ml) : mi 13 = ti 13 := funext (fun j => H.1 13 j rfl)
theorem eqP.e14 (H : eqP ti tl mi ml) : mi 14 = ti 14 := funext (fun j => H.1 14 j rfl)
theorem eqP.e15 (H : eqP ti tl mi ml) : mi 15 = ti 15 := funext (fun j => H.1 15 j rfl)
theorem eqP.e16 (H : eqP ti tl mi ml) : mi 16 = ti 16 := funext (fun j => H.1 16 j rfl)
theorem eqP.e17 (H : eqP ti tl mi ml) : mi 17 = ti 17 := funext (fun j => H.1 17 j rfl)
theorem eqP.e18 (H : eqP ti tl mi ml) : mi 18 = ti 18 := funext (fun j => H.1 18 j rfl)
theorem eqP.e19 (H : eqP ti tl mi ml) : mi 19 = ti 19 := funext (fun j => H.1 19 j rfl)
theorem eqP.e20 (H : eqP ti tl mi ml) : mi 20 = ti 20 := funext (fun j => H.1 20 j rfl)
theorem eqP.e21 (H : eqP ti tl mi ml) : mi 21 = ti 21 := funext (fun j => H.1 21 j rfl)
theorem eqP.e24 (H : eqP ti tl mi ml) : mi 24 = ti 24 := funext (fun j => H.1 24 j rfl)
theorem eqP.e37 (H : eqP ti tl mi ml) : mi 37 = ti 37 := funext (fun j => H.1 37 j rfl)
theorem eqP.e22 (H : eqP ti tl mi ml) : mi 2 2 = ti 2 2 := H.1 2 2 rfl
theorem eqP.e93 (H : eqP ti tl mi ml) : mi 9 3 = ti 9 3 := H.1 9 3 rfl
theorem eqP.e125 (H : eqP ti tl mi ml) : mi 12 5 = ti 12 5 := H.1 12 5 rfl
theorem eqP.e182 (H : eqP ti tl mi ml) : mi 18 2 = ti 18 2 := H.1 18 2 rfl
theorem eqP.e186 (H : eqP ti tl mi ml) : mi 18 6 = ti 18 6 := H.1 18 6 rfl
theorem eqP.f92 (H : eqP ti tl mi ml) : ml 9 2 = tl 9 2 := H.2 9 2 rfl
theorem eqP.f10 (H : eqP ti tl mi ml) : ml 10 = tl 10 := funext (fun j => H.2 10 j rfl)
theorem eqP.f11 (H : eqP ti tl mi ml) : ml 11 = tl 11 := funext (fun j => H.2 11 j rfl)
theorem eqP.f22 (H : eqP ti tl mi ml) : ml 22 = tl 22 := funext (fun j => H.2 22 j rfl)
theorem eqP.f23 (H : eqP ti tl mi ml) : ml 23 = tl 23 := funext (fun j => H.2 23 j rfl)
theorem eqM.s2 (H : eqM ti tl vi vl mi ml) : mi 40 2 = ti 40 2 := H.1 40 2 rfl
theorem eqM.s12 (H : eqM ti tl vi vl mi ml) : mi 40 12 = ti 40 12 := H.1 40 12 rfl
theorem eqM.s20 (H : eqM ti tl vi vl mi ml) : mi 40 20 = ti 40 20 := H.1 40 20 rfl
theorem eqM.s30 (H : eqM ti tl vi vl mi ml) : mi 40 30 = ti 40 30 := H.1 40 30 rfl
theorem eqM.s34 (H : eqM ti tl vi vl mi ml) : mi 40 34 = ti 40 34 := H.1 40 34 rfl
theorem eqM.s35 (H : eqM ti tl vi vl mi ml) : mi 40 35 = ti 40 35 := H.1 40 35 rfl
theorem eqM.s69 (H : eqM ti tl vi vl mi ml) : mi 40 69 = ti 40 69 := H.1 40 69 rfl
theorem eqM.e41 (H : eqM ti tl vi vl mi ml) : mi 41 = ti 41 := funext (fun j => H.1 41 j rfl)
theorem eqM.e46 (H : eqM ti tl vi vl mi ml) : mi 46 = ti 46 := funext (fun j => H.1 46 j rfl)
theorem eqM.e52 (H : eqM ti tl vi vl mi ml) : mi 52 = ti 52 := funext (fun j => H.1 52 j rfl)
theorem eqM.e53 (H : eqM ti tl vi vl mi ml) : mi 53 = ti 53 := funext (fun j => H.1 53 j rfl)
theorem eqM.e54 (H : eqM ti tl vi vl mi ml) : mi 54 = ti 54 := funext (fun j => H.1 54 j rfl)
theorem eqM.e57 (H : eqM ti tl vi vl mi ml) : mi 57 = ti 57 := funext (fun j => H.1 57 j rfl)
theorem eqM.e58 (H : eqM ti tl vi vl mi ml) : mi 58 = ti 58 := funext (fun j => H.1 58 j rfl)
theorem eqM.e59 (H : eqM ti tl vi vl mi ml) : mi 59 = ti 59 := funext (fun j => H.1 59 j rfl)
theorem eqM.e60 (H : eqM ti tl vi vl mi ml) : mi 60 = ti 60 := funext (fun j => H.1 60 j rfl)
theorem eqM.e61 (H : eqM ti tl vi vl mi ml) : mi 61 = ti 61 := funext (fun j => H.1 61 j rfl)
theorem eqM.e78 (H : eqM ti tl vi vl mi ml) : mi 78 = ti 78 := funext (fun j => H.1 78 j rfl)
theorem eqM.e81 (H : eqM ti tl vi vl mi ml) : mi 81 = ti 81 := funext (fun j => H.1 81 j rfl)
theorem eqM.e82 (H : eqM ti tl vi vl mi ml) : mi 82 = ti 82 := funext (fun j => H.1 82 j rfl)
theorem eqM.f45 (H : eqM ti tl vi vl mi ml) : ml 45 = tl 45 := funext (fun j => H.2.1 45 j rfl)
theorem eqM.f47 (H : eqM ti tl vi vl mi ml) : ml 47 = tl 47 := funext (fun j => H.2.1 47 j rfl)
theorem eqM.f48 (H : eqM ti tl vi vl mi ml) : ml 48 = tl 48 := funext (fun j => H.2.1 48 j rfl)
theorem eqM.f55 (H : eqM ti tl vi vl mi ml) : ml 55 = tl 55 := funext (fun j => H.2.1 55 j rfl)
theorem eqM.f56 (H : eqM ti tl vi vl mi ml) : ml 56 = tl 56 := funext (fun j => H.2.1 56 j rfl)
theorem eqM.f62 (H : eqM ti tl vi vl mi ml) : ml 62 = tl 62 := funext (fun j => H.2.1 62 j rfl)
theorem eqM.f63 (H : eqM ti tl vi vl mi ml) : ml 63 = tl 63 := funext (fun j => H.2.1 63 j rfl)
end EQ
theorem gD {l : List Nat} {g : Nat} (h : g < l.length) : l.getD g 0 = l[g] := by
  rw [List.getD_eq_getElem?_getD, List.getElem?_eq_getElem h]; rfl
theorem gD_app {l r : List Nat} {g : Nat} (h : g < l.length) : (l ++ r).getD g 0 = l.getD g 0 := by
  rw [List.getD_eq_getElem?_getD, List.getD_eq_getElem?_getD, List.getElem?_append_left h]
def nL (ti : cM1) : Nat := (ti 9 3).toNatClampNeg
def nW (ti : cM1) : Nat := (ti 12 5).toNatClampNeg
def nC (ti : cM1) : Nat := (ti 18 2).toNatClampNeg
def nR (ti : cM1) : Nat := (ti 18 6).toNatClampNeg
def nT (ti : cM1) : Nat := (ti 2 2).toNatClampNeg
/-- the sort of a sign -/
def srt (c : Nat) : Nat := if 97 ≤ c ∧ c ≤ 122 then 2 else if 48 ≤ c ∧ c ≤ 57 then 3 else if c = 10 ∨ c = 32 then 1 else if c = 40 then 4 else if c = 41 then 5 else if c = 59 then 6 else 7
def okW (ti : cM1) (w : Nat) : Prop := (∃ k, k < 4 ∧ ti 13 w = nI k) ∧ ((ti 13 w = 3 ∧ ti 14 w = -1) ∨ (¬ ti 13 w = 3 ∧ ∃ l, l < nL ti ∧ ti 14 w = nI l)) ∧ (∃ p, p < 100 ∧ ti 15 w = nI p) ∧ (∃ d, d < 10000 ∧ ti 16 w = nI d) ∧ (ti 17 w = -1 ∨ ∃ d, d < 10000 ∧ ti 17 w = nI d)
def okT (ti : cM1) : Prop :=
  (ti 9 3 = nI (nL ti) ∧ nL ti ≤ 12) ∧ (ti 12 5 = nI (nW ti) ∧ nW ti ≤ 30) ∧ (ti 18 2 = nI (nC ti) ∧ nC ti ≤ 40) ∧ (ti 18 6 = nI (nR ti) ∧ nR ti ≤ 20) ∧
  (∀ w, w < nW ti → okW ti w) ∧ (∀ c, c < nC ti → (∃ x, x < 128 ∧ ti 19 c = nI x) ∧ ∃ d, d < 10000 ∧ ti 20 c = nI d) ∧ (∀ g, g < nR ti → ∃ w, w < nW ti ∧ ti 21 g = nI w) ∧ (∀ p, p < 100 → ∃ h, h < 7 ∧ ti 24 p = nI h) ∧ (∀ h, h < 7 → ∀ i, 6 ≤ i → b3 (ti 37 h) i = false) ∧
  (∃ d, d < 10000 ∧ ti 1 0 = nI d ∧ (ti 1 1 = -1 ∨ ∃ e, e < d ∧ ti 1 1 = nI e)) ∧
  (ti 2 2 = nI (nT ti) ∧ nT ti ≤ 1000 ∧ ∀ i, i < nT ti → ∃ c, (c = 10 ∨ 32 ≤ c ∧ c ≤ 126) ∧ ti 3 i = nI c ∧ ti 4 i = nI (srt c))
/-- the reference's words -/
def wds : List Int64 := [687961, 17859, 573, 1891, 1038484, 11312755, 19741, 561, 679747, 22745289, 1355942890, 564229, 223095242, 755, 1521, 1, 2, 3, 4, 5, 6, 7]
/-- the reference's lasting cells, out of the class's -/
def okM (ti : cM1) (tl : cM2) : Prop :=
  (ti 40 12 = ti 9 3 ∧ ti 40 20 = ti 12 5 ∧ ti 40 30 = ti 18 6 ∧ ti 40 34 = ti 1 0 ∧ ti 40 35 = ti 1 1 ∧ ti 40 69 = ti 18 2 ∧ ti 40 2 = ti 2 2) ∧
  (∀ l, l < nL ti → ti 46 l = bI (!mB tl l) ∧ tl 47 l = tl 10 l ∧ tl 48 l = tl 11 l) ∧
  (∀ w, w < nW ti → ti 52 w = ti 13 w ∧ ti 53 w = ti 14 w ∧ ti 57 w = ti 15 w ∧ ti 58 w = ti 16 w ∧ ti 59 w = ti 17 w) ∧
  (∀ w, w < nW ti → (ti 13 w = 2 ∨ ti 13 w = 3) → ti 54 w = bI (!mB tl (12 + w)) ∧ tl 55 w = tl 10 (12 + w) ∧ tl 56 w = tl 11 (12 + w)) ∧
  (∀ p, p < 100 → ti 60 p = ti 24 p) ∧ (∀ g, g < nR ti → ti 61 g = ti 21 g ∧ tl 62 g = tl 22 g ∧ tl 63 g = tl 23 g) ∧
  (∀ h, h < 7 → ∀ g, g < 6 → ti 78 (6 * h + g) = bI (b3 (ti 37 h) g)) ∧ (∀ c, c < nC ti → ti 81 c = ti 19 c ∧ ti 82 c = ti 20 c) ∧ (∀ i, i < nT ti → ti 41 i = ti 3 i) ∧ (∀ i, i < 22 → tl 45 i = wds.getD i 0)
theorem okT.L {ti : cM1} (O : okT ti) : ti 9 3 = nI (nL ti) := O.1.1
theorem okT.L2 {ti : cM1} (O : okT ti) : nL ti ≤ 12 := O.1.2
theorem okT.W {ti : cM1} (O : okT ti) : ti 12 5 = nI (nW ti) := O.2.1.1
theorem okT.W2 {ti : cM1} (O : okT ti) : nW ti ≤ 30 := O.2.1.2
theorem okT.C {ti : cM1} (O : okT ti) : ti 18 2 = nI (nC ti) := O.2.2.1.1
theorem okT.C2 {ti : cM1} (O : okT ti) : nC ti ≤ 40 := O.2.2.1.2
theorem okT.R {ti : cM1} (O : okT ti) : ti 18 6 = nI (nR ti) := O.2.2.2.1.1
theorem okT.R2 {ti : cM1} (O : okT ti) : nR ti ≤ 20 := O.2.2.2.1.2
theorem okT.w {ti : cM1} (O : okT ti) : ∀ w, w < nW ti → okW ti w := O.2.2.2.2.1
theorem okT.c {ti : cM1} (O : okT ti) : ∀ c, c < nC ti → (∃ x, x < 128 ∧ ti 19 c = nI x) ∧ ∃ d, d < 10000 ∧ ti 20 c = nI d := O.2.2.2.2.2.1
theorem okT.g {ti : cM1} (O : okT ti) : ∀ g, g < nR ti → ∃ w, w < nW ti ∧ ti 21 g = nI w := O.2.2.2.2.2.2.1
theorem okT.h {ti : cM1} (O : okT ti) : ∀ p, p < 100 → ∃ h, h < 7 ∧ ti 24 p = nI h := O.2.2.2.2.2.2.2.1
theorem okT.y {ti : cM1} (O : okT ti) : ∀ h, h < 7 → ∀ i, 6 ≤ i → b3 (ti 37 h) i = false := O.2.2.2.2.2.2.2.2.1
theorem okT.d {ti : cM1} (O : okT ti) : ∃ d, d < 10000 ∧ ti 1 0 = nI d ∧ (ti 1 1 = -1 ∨ ∃ e, e < d ∧ ti 1 1 = nI e) := O.2.2.2.2.2.2.2.2.2.1
theorem okT.t {ti : cM1} (O : okT ti) : ti 2 2 = nI (nT ti) ∧ nT ti ≤ 1000 ∧ ∀ i, i < nT ti → ∃ c, (c = 10 ∨ 32 ≤ c ∧ c ≤ 126) ∧ ti 3 i = nI c ∧ ti 4 i = nI (srt c) := O.2.2.2.2.2.2.2.2.2.2
theorem okM.s12 {ti : cM1} {tl : cM2} (O : okM ti tl) : ti 40 12 = ti 9 3 := O.1.1
theorem okM.s20 {ti : cM1} {tl : cM2} (O : okM ti tl) : ti 40 20 = ti 12 5 := O.1.2.1
theorem okM.s30 {ti : cM1} {tl : cM2} (O : okM ti tl) : ti 40 30 = ti 18 6 := O.1.2.2.1
theorem okM.s34 {ti : cM1} {tl : cM2} (O : okM ti tl) : ti 40 34 = ti 1 0 := O.1.2.2.2.1
theorem okM.s35 {ti : cM1} {tl : cM2} (O : okM ti tl) : ti 40 35 = ti 1 1 := O.1.2.2.2.2.1
theorem okM.s69 {ti : cM1} {tl : cM2} (O : okM ti tl) : ti 40 69 = ti 18 2 := O.1.2.2.2.2.2.1
theorem okM.s2 {ti : cM1} {tl : cM2} (O : okM ti tl) : ti 40 2 = ti 2 2 := O.1.2.2.2.2.2.2
theorem okM.l {ti : cM1} {tl : cM2} (O : okM ti tl) : ∀ l, l < nL ti → ti 46 l = bI (!mB tl l) ∧ tl 47 l = tl 10 l ∧ tl 48 l = tl 11 l := O.2.1
theorem okM.w {ti : cM1} {tl : cM2} (O : okM ti tl) : ∀ w, w < nW ti → ti 52 w = ti 13 w ∧ ti 53 w = ti 14 w ∧ ti 57 w = ti 15 w ∧ ti 58 w = ti 16 w ∧ ti 59 w = ti 17 w := O.2.2.1
theorem okM.n {ti : cM1} {tl : cM2} (O : okM ti tl) : ∀ w, w < nW ti → (ti 13 w = 2 ∨ ti 13 w = 3) → ti 54 w = bI (!mB tl (12 + w)) ∧ tl 55 w = tl 10 (12 + w) ∧ tl 56 w = tl 11 (12 + w) := O.2.2.2.1
theorem okM.h {ti : cM1} {tl : cM2} (O : okM ti tl) : ∀ p, p < 100 → ti 60 p = ti 24 p := O.2.2.2.2.1
theorem okM.g {ti : cM1} {tl : cM2} (O : okM ti tl) : ∀ g, g < nR ti → ti 61 g = ti 21 g ∧ tl 62 g = tl 22 g ∧ tl 63 g = tl 23 g := O.2.2.2.2.2.1
theorem okM.y {ti : cM1} {tl : cM2} (O : okM ti tl) : ∀ h, h < 7 → ∀ g, g < 6 → ti 78 (6 * h + g) = bI (b3 (ti 37 h) g) := O.2.2.2.2.2.2.1
theorem okM.c {ti : cM1} {tl : cM2} (O : okM ti tl) : ∀ c, c < nC ti → ti 81 c = ti 19 c ∧ ti 82 c = ti 20 c := O.2.2.2.2.2.2.2.1
theorem okM.t {ti : cM1} {tl : cM2} (O : okM ti tl) : ∀ i, i < nT ti → ti 41 i = ti 3 i := O.2.2.2.2.2.2.2.2.1
theorem okM.x {ti : cM1} {tl : cM2} (O : okM ti tl) : ∀ i, i < 22 → tl 45 i = wds.getD i 0 := O.2.2.2.2.2.2.2.2.2
/-- a wish is in the view -/
def seenP (ti : cM1) (w : Nat) : Prop := ¬ cSeen ti < ti 16 w ∧ (ti 17 w = -1 ∨ cSeen ti < ti 17 w)
def cutP (ti : cM1) (w p : Nat) : Prop := (ti 13 w = 0 ∨ ti 13 w = 2) ∧ p = (ti 14 w).toNatClampNeg
def filP (ti : cM1) (w p : Nat) : Prop := (ti 13 w = 2 ∨ ti 13 w = 3) ∧ p = 12 + w
/-- the places of the law by the wishes K -/
noncomputable def LK (ti : cM1) (K : Nat → Prop) (p : Nat) : Bool := pB ((p < nL ti ∧ ¬ ∃ w, w < nW ti ∧ K w ∧ cutP ti w p) ∨ ∃ w, w < nW ti ∧ K w ∧ filP ti w p)
def sameP (ti : cM1) (tl : cM2) (v w : Nat) : Prop := ((ti 13 v = 1 ∨ ti 13 w = 1) ∧ ti 13 v = ti 13 w ∧ ti 14 v = ti 14 w) ∨ (¬ ti 13 v = 1 ∧ ¬ ti 13 w = 1 ∧ mS tl (LK ti (fun x => x = v)) (LK ti (fun x => x = w)))
def alP (tl : cM2) (p q : Nat) : Prop := mB tl p = mB tl q ∧ tl 10 p = tl 10 q ∧ tl 11 p = tl 11 q
def touP (ti : cM1) (tl : cM2) (v w : Nat) : Prop := ¬ ti 14 v = -1 ∧ ti 14 v = ti 14 w ∧ (¬ ti 13 v = ti 13 w ∨ (ti 13 v = 2 ∧ ¬ alP tl (12 + v) (12 + w)))
/-- the groups' first wishes, among the first n -/
noncomputable def ldr (ti : cM1) (tl : cM2) : Nat → List Nat
  | 0 => []
  | w + 1 => cond (pB (seenP ti w ∧ ∀ v ∈ ldr ti tl w, ¬ sameP ti tl v w)) (ldr ti tl w ++ [w]) (ldr ti tl w)
noncomputable def nG (ti : cM1) (tl : cM2) : Nat := (ldr ti tl (nW ti)).length
noncomputable def led (ti : cM1) (tl : cM2) (g : Nat) : Nat := (ldr ti tl (nW ti)).getD g 0
noncomputable def gix (ti : cM1) (tl : cM2) (w : Nat) : Nat := (ldr ti tl w).findIdx (fun v => pB (sameP ti tl v w))
noncomputable def ofG (ti : cM1) (tl : cM2) (w : Nat) : Int32 := cond (pB (seenP ti w)) (nI (gix ti tl w)) (-1)
/-- the wishes that speak for the groups S -/
def gK (ti : cM1) (tl : cM2) (S : Nat → Bool) (w : Nat) : Prop := ∃ g, g < nG ti tl ∧ S g = true ∧ led ti tl g = w
noncomputable def lawS (ti : cM1) (tl : cM2) (S : Nat → Bool) : Nat → Bool := LK ti (gK ti tl S)
/-- no two of the groups S touch -/
def ntS (ti : cM1) (tl : cM2) (S : Nat → Bool) : Prop := ∀ g h, g < nG ti tl → h < nG ti tl → S g = true → S h = true → ¬ touP ti tl (led ti tl g) (led ti tl h)
def goeP (ti : cM1) (tl : cM2) (S : Nat → Bool) : Prop := ntS ti tl S ∧ cQ tl (lawS ti tl S) = 0
theorem ldr_s (ti : cM1) (tl : cM2) (n : Nat) : ldr ti tl (n + 1) = cond (pB (seenP ti n ∧ ∀ v ∈ ldr ti tl n, ¬ sameP ti tl v n)) (ldr ti tl n ++ [n]) (ldr ti tl n) := rfl
theorem ldr_le (ti : cM1) (tl : cM2) : ∀ n, (ldr ti tl n).length ≤ n
  | 0 => Nat.le_refl 0
  | n + 1 => by
    have := ldr_le ti tl n
    rw [ldr_s]
    cases pB (seenP ti n ∧ ∀ v ∈ ldr ti tl n, ¬ sameP ti tl v n)
    · show (ldr ti tl n).length ≤ n + 1
      omega
    · show (ldr ti tl n ++ [n]).length ≤ n + 1
      rw [List.length_append]
      show _ + 1 ≤ _
      omega
theorem ldr_lt (ti : cM1) (tl : cM2) : ∀ n v, v ∈ ldr ti tl n → v < n ∧ seenP ti v
  | 0, v, h => by cases h
  | n + 1, v, h => by
    rw [ldr_s] at h
    cases hc : pB (seenP ti n ∧ ∀ v ∈ ldr ti tl n, ¬ sameP ti tl v n) with
    | false =>
      rw [hc] at h
      have := ldr_lt ti tl n v h
      exact ⟨by omega, this.2⟩
    | true =>
      rw [hc] at h
      rcases List.mem_append.1 h with h | h
      · have := ldr_lt ti tl n v h
        exact ⟨by omega, this.2⟩
      · have : v = n := by simpa using h
        rw [this]
        exact ⟨by omega, (pB_iff.1 hc).1⟩
theorem nG_le (ti : cM1) (tl : cM2) : nG ti tl ≤ nW ti := ldr_le ti tl _
theorem led_lt (ti : cM1) (tl : cM2) {g : Nat} (h : g < nG ti tl) : led ti tl g < nW ti ∧ seenP ti (led ti tl g) := by
  unfold led
  have h' : g < (ldr ti tl (nW ti)).length := h
  rw [gD h']
  exact ldr_lt ti tl _ _ (List.getElem_mem h')
/-- what is there stays there -/
theorem ldr_pre (ti : cM1) (tl : cM2) {n : Nat} : ∀ m, n ≤ m → ∃ r, ldr ti tl m = ldr ti tl n ++ r := by
  intro m h
  induction m with
  | zero => exact ⟨[], by rw [show n = 0 by omega]; simp⟩
  | succ m ih =>
    rcases Nat.lt_or_eq_of_le h with h | h
    · obtain ⟨r, hr⟩ := ih (by omega)
      rw [ldr_s]
      cases pB (seenP ti m ∧ ∀ v ∈ ldr ti tl m, ¬ sameP ti tl v m)
      · exact ⟨r, hr⟩
      · exact ⟨r ++ [m], by show ldr ti tl m ++ [m] = _; rw [hr, List.append_assoc]⟩
    · exact ⟨[], by rw [h]; simp⟩
theorem ldr_get (ti : cM1) (tl : cM2) {n g : Nat} (hn : n ≤ nW ti) (h : g < (ldr ti tl n).length) : (ldr ti tl n).getD g 0 = led ti tl g ∧ g < nG ti tl := by
  obtain ⟨r, hr⟩ := ldr_pre ti tl (nW ti) hn
  unfold led nG
  rw [hr]
  constructor
  · exact (gD_app h).symm
  · rw [List.length_append]; omega
theorem touP_irr (ti : cM1) (tl : cM2) (v : Nat) : ¬ touP ti tl v v := fun h => h.2.2.elim (fun h => h rfl) (fun h => h.2 ⟨rfl, rfl, rfl⟩)
theorem alP_symm {tl : cM2} {p q : Nat} (h : alP tl p q) : alP tl q p := ⟨h.1.symm, h.2.1.symm, h.2.2.symm⟩
theorem touP_symm {ti : cM1} {tl : cM2} {v w : Nat} (h : touP ti tl v w) : touP ti tl w v := by
  obtain ⟨h1, h2, h3⟩ := h
  refine ⟨by rw [← h2]; exact h1, h2.symm, ?_⟩
  rcases h3 with h3 | ⟨h3, h4⟩
  · exact Or.inl (fun h => h3 h.symm)
  · by_cases e : ti 13 v = ti 13 w
    · exact Or.inr ⟨by rw [← e]; exact h3, fun h => h4 (alP_symm h)⟩
    · exact Or.inl (fun h => e h.symm)
theorem mS_refl (ml : cM2) (P : Nat → Bool) : mS ml P P := ⟨rfl, rfl, fun p hp h1 h2 => ⟨p, hp, h1, h2, rfl, rfl⟩, fun p hp h1 h2 => ⟨p, hp, h1, h2, rfl, rfl⟩⟩
theorem sameP_refl (ti : cM1) (tl : cM2) (v : Nat) : sameP ti tl v v := by
  by_cases h : ti 13 v = 1
  · exact Or.inl ⟨Or.inl h, rfl, rfl⟩
  · exact Or.inr ⟨h, h, mS_refl _ _⟩
theorem eqP.qmB {ti mi : cM1} {tl ml : cM2} (H : eqP ti tl mi ml) : mB ml = mB tl := by
  funext p; unfold mB; rw [H.f92]
theorem eqP.qoA {ti mi : cM1} {tl ml : cM2} (H : eqP ti tl mi ml) : oA ml = oA tl := by
  funext P; unfold oA; rw [H.f10, H.qmB]
theorem eqP.qoB {ti mi : cM1} {tl ml : cM2} (H : eqP ti tl mi ml) : oB ml = oB tl := by
  funext P; unfold oB; rw [H.f11, H.qmB]
theorem eqP.qhM {ti mi : cM1} {tl ml : cM2} (H : eqP ti tl mi ml) : hM ml = hM tl := by
  funext P N; unfold hM; rw [H.f10, H.f11, H.qmB]
theorem eqP.qmS {ti mi : cM1} {tl ml : cM2} (H : eqP ti tl mi ml) : mS ml = mS tl := by
  funext P N; unfold mS; rw [H.qoA, H.qoB, H.qhM]
theorem eqP.qvn {ti mi : cM1} {tl ml : cM2} (H : eqP ti tl mi ml) : vn ml = vn tl := by
  funext P a b p; unfold vn; rw [H.f10, H.f11, H.qmB]
theorem eqP.qcQ {ti mi : cM1} {tl ml : cM2} (H : eqP ti tl mi ml) : cQ ml = cQ tl := by
  funext P; unfold cQ; rw [H.qoA, H.qoB, H.qvn]
theorem eqP.qcSeen {ti mi : cM1} {tl ml : cM2} (H : eqP ti tl mi ml) : cSeen mi = cSeen ti := by
  unfold cSeen; rw [H.e1]
theorem ab_sem_q {ro : ab_E} {d k : Nat} {as : List Value} {g g' : ab_S} {r : Option Value} {pg : Nat → Option ab_I} {nL mc ms : Nat} (hk : ab_mt k = some (pg, nL, mc, ms)) (he : Nat.ble (ab_ea as).length nL = true) (h : ∀ Q : Option Value → ab_S → Prop, Q r g' → ab_W (ab_sem ro ab_mt d) ro mc ms pg Q (0, ab_ent nL as, [], 0, 0, g)) : ab_sem ro ab_mt (d + 1) k as g r g' := ab_sem_of hk he (h _ ⟨rfl, rfl⟩)
/-- an end with what P says -/
theorem ab_ex_q {ro : ab_E} {d k : Nat} {as : List Value} {g : ab_S} {v : Option Value} {P : cM1 → cM2 → Prop} {pg : Nat → Option ab_I} {nL mc ms : Nat} (hk : ab_mt k = some (pg, nL, mc, ms)) (he : Nat.ble (ab_ea as).length nL = true) (h : ∀ Q : Option Value → ab_S → Prop, (∀ mi' ml', P mi' ml' → Q v (ab_G mi' ml')) → ab_W (ab_sem ro ab_mt d) ro mc ms pg Q (0, ab_ent nL as, [], 0, 0, g)) : ∃ mi' ml', ab_sem ro ab_mt (d + 1) k as g v (ab_G mi' ml') ∧ P mi' ml' :=
  ab_ex (ab_C_of hk he (h _ (fun mi' ml' hp => ⟨mi', ml', rfl, rfl, hp⟩)))
/-- an end with some answer -/
theorem ab_ei_q {ro : ab_E} {d k : Nat} {as : List Value} {g : ab_S} {P : Int32 → cM1 → cM2 → Prop} {pg : Nat → Option ab_I} {nL mc ms : Nat} (hk : ab_mt k = some (pg, nL, mc, ms)) (he : Nat.ble (ab_ea as).length nL = true) (h : ∀ Q : Option Value → ab_S → Prop, (∀ r mi' ml', P r mi' ml' → Q (some (.int r)) (ab_G mi' ml')) → ab_W (ab_sem ro ab_mt d) ro mc ms pg Q (0, ab_ent nL as, [], 0, 0, g)) : ∃ r mi' ml', ab_sem ro ab_mt (d + 1) k as g (some (.int r)) (ab_G mi' ml') ∧ P r mi' ml' := by
  obtain ⟨v, g', h1, r, mi', ml', rfl, rfl, h2⟩ := ab_C_of (Q := fun v g' => ∃ r mi' ml', v = some (.int r) ∧ g' = ab_G mi' ml' ∧ P r mi' ml') hk he (h _ (fun r mi' ml' hp => ⟨r, mi', ml', rfl, rfl, hp⟩))
  exact ⟨r, mi', ml', h1, h2⟩
theorem ab_el_q {ro : ab_E} {d k : Nat} {as : List Value} {g : ab_S} {P : Int64 → cM1 → cM2 → Prop} {pg : Nat → Option ab_I} {nL mc ms : Nat} (hk : ab_mt k = some (pg, nL, mc, ms)) (he : Nat.ble (ab_ea as).length nL = true) (h : ∀ Q : Option Value → ab_S → Prop, (∀ r mi' ml', P r mi' ml' → Q (some (.long r)) (ab_G mi' ml')) → ab_W (ab_sem ro ab_mt d) ro mc ms pg Q (0, ab_ent nL as, [], 0, 0, g)) : ∃ r mi' ml', ab_sem ro ab_mt (d + 1) k as g (some (.long r)) (ab_G mi' ml') ∧ P r mi' ml' := by
  obtain ⟨v, g', h1, r, mi', ml', rfl, rfl, h2⟩ := ab_C_of (Q := fun v g' => ∃ r mi' ml', v = some (.long r) ∧ g' = ab_G mi' ml' ∧ P r mi' ml') hk he (h _ (fun r mi' ml' hp => ⟨r, mi', ml', rfl, rfl, hp⟩))
  exact ⟨r, mi', ml', h1, h2⟩
abbrev cs (ro : ab_E) (d : Nat) : Nat → List Value → ab_S → Option Value → ab_S → Prop := ab_sem ro ab_mt d
theorem pcn_s1 {f : Nat → Bool} {n : Nat} (h : f n = true) : pcn f n + 1 = pcn f (n + 1) := by
  show _ = pcn f n + (f n).toNat
  rw [h]; rfl
theorem pcn_s0 {f : Nat → Bool} {n : Nat} (h : f n = false) : pcn f n = pcn f (n + 1) := by
  show _ = pcn f n + (f n).toNat
  rw [h]; rfl
