theorem vc_J0_coder_7d493_s0_0 {call : Nat → List Value → ab_S → Option Value → ab_S → Prop} {ro : ab_E} {Q : Option Value → ab_S → Prop}  (mi : Nat → Nat → Int32) (ml : Nat → Nat → Int64)
    (h : narrow .byte (.int 0) = .int 0 ∧ (Q (some (.int 0)) (ab_G mi ml))) :
    ab_W call ro 0 0 (ab_lk2 pl_J0_coder_7d493) Q (0, [some (.ref 1000000)], [], 0, 0, ab_G mi ml) := by
  refine ab_wk 2 (f' := (if (1 : Int32) = 0 then 13 else 6, [some (.ref 1000000)], [], 0, 0, (ab_G mi ml))) rfl ⟨trivial, trivial, trivial⟩ ?_
  refine ab_wif (c := ((1 : Int32) = 0)) (by decide) ?_
  obtain ⟨p0, h⟩ := h
  exact ab_wr 4 rfl ⟨trivial, trivial, trivial, p0⟩ h
theorem vc_J0_isLatin1_aae02_s0_0 {call : Nat → List Value → ab_S → Option Value → ab_S → Prop} {ro : ab_E} {Q : Option Value → ab_S → Prop}  (mi : Nat → Nat → Int32) (ml : Nat → Nat → Int64)
    (h : Q (some (.int 1)) (ab_G mi ml)) :
    ab_W call ro 0 0 (ab_lk2 pl_J0_isLatin1_aae02) Q (0, [some (.ref 1000000)], [], 0, 0, ab_G mi ml) := by
  refine ab_wk 2 (f' := (if (1 : Int32) = 0 then 17 else 6, [some (.ref 1000000)], [], 0, 0, (ab_G mi ml))) rfl ⟨trivial, trivial, trivial⟩ ?_
  refine ab_wif (c := ((1 : Int32) = 0)) (by decide) ?_
  refine ab_wk 3 (f' := (if (0 : Int32) = 0 then 13 else 17, [some (.ref 1000000)], [], 0, 0, (ab_G mi ml))) rfl ⟨trivial, trivial, trivial, trivial⟩ ?_
  refine ab_wit (c := ((0 : Int32) = 0)) (by decide) ?_
  exact ab_wr 3 rfl ⟨trivial, trivial, (Or.inr rfl)⟩ h
theorem vc_J0_length_8abf5_s0_0 {call : Nat → List Value → ab_S → Option Value → ab_S → Prop} {L : Nat} {xs : Nat → Int32} {Q : Option Value → ab_S → Prop}  (mi : Nat → Nat → Int32) (ml : Nat → Nat → Int64)
    (h : ∃ (r3 : Int32) (mi1 : Nat → Nat → Int32) (ml2 : Nat → Nat → Int64), call 246 [.ref 1000000] (ab_G mi ml) (some (.int r3)) (ab_G mi1 ml2) ∧ (Q (some (.int ((Int32.ofNat 4) >>> (r3 &&& 31)))) (ab_G mi1 ml2))) :
    ab_W call (ab_ro L xs) 0 0 (ab_lk2 pl_J0_length_8abf5) Q (0, [some (.ref 1000000)], [], 0, 0, ab_G mi ml) := by
  obtain ⟨r3, mi1, ml2, hc, h⟩ := h
  refine ab_wc 5 (c := 246) (as := [.ref 1000000]) (pc := 9) (ll := [some (.ref 1000000)]) (st := [.int (Int32.ofNat 4)]) (c1 := 0) (s1 := 0) (g := (ab_G mi ml)) rfl ⟨trivial, trivial, trivial, trivial, trivial⟩ hc ?_
  exact ab_wr 2 rfl ⟨trivial, trivial⟩ h
theorem vc_J0_charAt_5068e_s0_0 {call : Nat → List Value → ab_S → Option Value → ab_S → Prop} {ro : ab_E} {Q : Option Value → ab_S → Prop} (x1 : Int32) (mi : Nat → Nat → Int32) (ml : Nat → Nat → Int64)
    (h : ∃ (r3 : Int32) (mi1 : Nat → Nat → Int32) (ml2 : Nat → Nat → Int64), call 247 [.ref 1000000] (ab_G mi ml) (some (.int r3)) (ab_G mi1 ml2) ∧ (((r3 = 0) → (False)) ∧ (¬ (r3 = 0) → (∃ (r6 : Int32) (mi4 : Nat → Nat → Int32) (ml5 : Nat → Nat → Int64), call 249 [.ref 1000100, .int x1] (ab_G mi1 ml2) (some (.int r6)) (ab_G mi4 ml5) ∧ (narrow .char (.int r6) = .int r6 ∧ (Q (some (.int r6)) (ab_G mi4 ml5))))))) :
    ab_W call ro 0 0 (ab_lk2 pl_J0_charAt_5068e) Q (0, [some (.ref 1000000), some (.int x1)], [], 0, 0, ab_G mi ml) := by
  obtain ⟨r3, mi1, ml2, hc, h⟩ := h
  refine ab_wc 2 (c := 247) (as := [.ref 1000000]) (pc := 4) (ll := [some (.ref 1000000), some (.int x1)]) (st := []) (c1 := 0) (s1 := 0) (g := (ab_G mi ml)) rfl ⟨trivial, trivial⟩ hc ?_
  refine ab_wk 1 (f' := (if r3 = 0 then 16 else 7, [some (.ref 1000000), some (.int x1)], [], 0, 0, (ab_G mi1 ml2))) rfl ⟨trivial, trivial⟩ ?_
  refine ab_wi (fun c => ?_) (fun c => ?_)
  · have h := h.1 c
    exact h.elim
  · have h := h.2 c
    obtain ⟨r6, mi4, ml5, hc, h⟩ := h
    refine ab_wc 4 (c := 249) (as := [.ref 1000100, .int x1]) (pc := 15) (ll := [some (.ref 1000000), some (.int x1)]) (st := []) (c1 := 0) (s1 := 0) (g := (ab_G mi1 ml2)) rfl ⟨trivial, trivial, trivial, trivial⟩ hc ?_
    obtain ⟨p0, h⟩ := h
    exact ab_wr 1 rfl p0 h
theorem vc_J1_charAt_3b067_s0_0 {call : Nat → List Value → ab_S → Option Value → ab_S → Prop} {L : Nat} {xs : Nat → Int32} {Q : Option Value → ab_S → Prop} (x1 : Int32) (mi : Nat → Nat → Int32) (ml : Nat → Nat → Int64)
    (h : ∃ (mi1 : Nat → Nat → Int32) (ml2 : Nat → Nat → Int64), call 248 [.int x1, .int (Int32.ofNat 4)] (ab_G mi ml) none (ab_G mi1 ml2) ∧ (vp_in x1 4 ∧ (narrow .char (.int ((((ab_sb 0 (x1).toNatClampNeg) &&& 255)).toUInt32 % 65536).toInt32) = .int ((((ab_sb 0 (x1).toNatClampNeg) &&& 255)).toUInt32 % 65536).toInt32 ∧ (Q (some (.int ((((ab_sb 0 (x1).toNatClampNeg) &&& 255)).toUInt32 % 65536).toInt32)) (ab_G mi1 ml2))))) :
    ab_W call (ab_ro L xs) 0 0 (ab_lk2 pl_J1_charAt_3b067) Q (0, [some (.ref 1000100), some (.int x1)], [], 0, 0, ab_G mi ml) := by
  obtain ⟨mi1, ml2, hc, h⟩ := h
  refine ab_wc 4 (c := 248) (as := [.int x1, .int (Int32.ofNat 4)]) (pc := 6) (ll := [some (.ref 1000100), some (.int x1)]) (st := []) (c1 := 0) (s1 := 0) (g := (ab_G mi ml)) rfl ⟨trivial, trivial, trivial, trivial⟩ hc ?_
  obtain ⟨p0, p1, h⟩ := h
  exact ab_wr 7 rfl ⟨trivial, trivial, p0, trivial, trivial, trivial, p1⟩ h
theorem vc_J0_coder_7d493_s1_0 {call : Nat → List Value → ab_S → Option Value → ab_S → Prop} {ro : ab_E} {Q : Option Value → ab_S → Prop}  (mi : Nat → Nat → Int32) (ml : Nat → Nat → Int64)
    (h : narrow .byte (.int 0) = .int 0 ∧ (Q (some (.int 0)) (ab_G mi ml))) :
    ab_W call ro 0 0 (ab_lk2 pl_J0_coder_7d493) Q (0, [some (.ref 1000001)], [], 0, 0, ab_G mi ml) := by
  refine ab_wk 2 (f' := (if (1 : Int32) = 0 then 13 else 6, [some (.ref 1000001)], [], 0, 0, (ab_G mi ml))) rfl ⟨trivial, trivial, trivial⟩ ?_
  refine ab_wif (c := ((1 : Int32) = 0)) (by decide) ?_
  obtain ⟨p0, h⟩ := h
  exact ab_wr 4 rfl ⟨trivial, trivial, trivial, p0⟩ h
theorem vc_J0_isLatin1_aae02_s1_0 {call : Nat → List Value → ab_S → Option Value → ab_S → Prop} {ro : ab_E} {Q : Option Value → ab_S → Prop}  (mi : Nat → Nat → Int32) (ml : Nat → Nat → Int64)
    (h : Q (some (.int 1)) (ab_G mi ml)) :
    ab_W call ro 0 0 (ab_lk2 pl_J0_isLatin1_aae02) Q (0, [some (.ref 1000001)], [], 0, 0, ab_G mi ml) := by
  refine ab_wk 2 (f' := (if (1 : Int32) = 0 then 17 else 6, [some (.ref 1000001)], [], 0, 0, (ab_G mi ml))) rfl ⟨trivial, trivial, trivial⟩ ?_
  refine ab_wif (c := ((1 : Int32) = 0)) (by decide) ?_
  refine ab_wk 3 (f' := (if (0 : Int32) = 0 then 13 else 17, [some (.ref 1000001)], [], 0, 0, (ab_G mi ml))) rfl ⟨trivial, trivial, trivial, trivial⟩ ?_
  refine ab_wit (c := ((0 : Int32) = 0)) (by decide) ?_
  exact ab_wr 3 rfl ⟨trivial, trivial, (Or.inr rfl)⟩ h
theorem vc_J0_length_8abf5_s1_0 {call : Nat → List Value → ab_S → Option Value → ab_S → Prop} {L : Nat} {xs : Nat → Int32} {Q : Option Value → ab_S → Prop}  (mi : Nat → Nat → Int32) (ml : Nat → Nat → Int64)
    (h : ∃ (r3 : Int32) (mi1 : Nat → Nat → Int32) (ml2 : Nat → Nat → Int64), call 246 [.ref 1000001] (ab_G mi ml) (some (.int r3)) (ab_G mi1 ml2) ∧ (Q (some (.int ((Int32.ofNat 3) >>> (r3 &&& 31)))) (ab_G mi1 ml2))) :
    ab_W call (ab_ro L xs) 0 0 (ab_lk2 pl_J0_length_8abf5) Q (0, [some (.ref 1000001)], [], 0, 0, ab_G mi ml) := by
  obtain ⟨r3, mi1, ml2, hc, h⟩ := h
  refine ab_wc 5 (c := 246) (as := [.ref 1000001]) (pc := 9) (ll := [some (.ref 1000001)]) (st := [.int (Int32.ofNat 3)]) (c1 := 0) (s1 := 0) (g := (ab_G mi ml)) rfl ⟨trivial, trivial, trivial, trivial, trivial⟩ hc ?_
  exact ab_wr 2 rfl ⟨trivial, trivial⟩ h
theorem vc_J0_charAt_5068e_s1_0 {call : Nat → List Value → ab_S → Option Value → ab_S → Prop} {ro : ab_E} {Q : Option Value → ab_S → Prop} (x1 : Int32) (mi : Nat → Nat → Int32) (ml : Nat → Nat → Int64)
    (h : ∃ (r3 : Int32) (mi1 : Nat → Nat → Int32) (ml2 : Nat → Nat → Int64), call 247 [.ref 1000001] (ab_G mi ml) (some (.int r3)) (ab_G mi1 ml2) ∧ (((r3 = 0) → (False)) ∧ (¬ (r3 = 0) → (∃ (r6 : Int32) (mi4 : Nat → Nat → Int32) (ml5 : Nat → Nat → Int64), call 249 [.ref 1000101, .int x1] (ab_G mi1 ml2) (some (.int r6)) (ab_G mi4 ml5) ∧ (narrow .char (.int r6) = .int r6 ∧ (Q (some (.int r6)) (ab_G mi4 ml5))))))) :
    ab_W call ro 0 0 (ab_lk2 pl_J0_charAt_5068e) Q (0, [some (.ref 1000001), some (.int x1)], [], 0, 0, ab_G mi ml) := by
  obtain ⟨r3, mi1, ml2, hc, h⟩ := h
  refine ab_wc 2 (c := 247) (as := [.ref 1000001]) (pc := 4) (ll := [some (.ref 1000001), some (.int x1)]) (st := []) (c1 := 0) (s1 := 0) (g := (ab_G mi ml)) rfl ⟨trivial, trivial⟩ hc ?_
  refine ab_wk 1 (f' := (if r3 = 0 then 16 else 7, [some (.ref 1000001), some (.int x1)], [], 0, 0, (ab_G mi1 ml2))) rfl ⟨trivial, trivial⟩ ?_
  refine ab_wi (fun c => ?_) (fun c => ?_)
  · have h := h.1 c
    exact h.elim
  · have h := h.2 c
    obtain ⟨r6, mi4, ml5, hc, h⟩ := h
    refine ab_wc 4 (c := 249) (as := [.ref 1000101, .int x1]) (pc := 15) (ll := [some (.ref 1000001), some (.int x1)]) (st := []) (c1 := 0) (s1 := 0) (g := (ab_G mi1 ml2)) rfl ⟨trivial, trivial, trivial, trivial⟩ hc ?_
    obtain ⟨p0, h⟩ := h
    exact ab_wr 1 rfl p0 h
theorem vc_J1_charAt_3b067_s1_0 {call : Nat → List Value → ab_S → Option Value → ab_S → Prop} {L : Nat} {xs : Nat → Int32} {Q : Option Value → ab_S → Prop} (x1 : Int32) (mi : Nat → Nat → Int32) (ml : Nat → Nat → Int64)
    (h : ∃ (mi1 : Nat → Nat → Int32) (ml2 : Nat → Nat → Int64), call 248 [.int x1, .int (Int32.ofNat 3)] (ab_G mi ml) none (ab_G mi1 ml2) ∧ (vp_in x1 3 ∧ (narrow .char (.int ((((ab_sb 1 (x1).toNatClampNeg) &&& 255)).toUInt32 % 65536).toInt32) = .int ((((ab_sb 1 (x1).toNatClampNeg) &&& 255)).toUInt32 % 65536).toInt32 ∧ (Q (some (.int ((((ab_sb 1 (x1).toNatClampNeg) &&& 255)).toUInt32 % 65536).toInt32)) (ab_G mi1 ml2))))) :
    ab_W call (ab_ro L xs) 0 0 (ab_lk2 pl_J1_charAt_3b067) Q (0, [some (.ref 1000101), some (.int x1)], [], 0, 0, ab_G mi ml) := by
  obtain ⟨mi1, ml2, hc, h⟩ := h
  refine ab_wc 4 (c := 248) (as := [.int x1, .int (Int32.ofNat 3)]) (pc := 6) (ll := [some (.ref 1000101), some (.int x1)]) (st := []) (c1 := 0) (s1 := 0) (g := (ab_G mi ml)) rfl ⟨trivial, trivial, trivial, trivial⟩ hc ?_
  obtain ⟨p0, p1, h⟩ := h
  exact ab_wr 7 rfl ⟨trivial, trivial, p0, trivial, trivial, trivial, p1⟩ h
theorem vc_J0_coder_7d493_s2_0 {call : Nat → List Value → ab_S → Option Value → ab_S → Prop} {ro : ab_E} {Q : Option Value → ab_S → Prop}  (mi : Nat → Nat → Int32) (ml : Nat → Nat → Int64)
    (h : narrow .byte (.int 0) = .int 0 ∧ (Q (some (.int 0)) (ab_G mi ml))) :
    ab_W call ro 0 0 (ab_lk2 pl_J0_coder_7d493) Q (0, [some (.ref 1000002)], [], 0, 0, ab_G mi ml) := by
  refine ab_wk 2 (f' := (if (1 : Int32) = 0 then 13 else 6, [some (.ref 1000002)], [], 0, 0, (ab_G mi ml))) rfl ⟨trivial, trivial, trivial⟩ ?_
  refine ab_wif (c := ((1 : Int32) = 0)) (by decide) ?_
  obtain ⟨p0, h⟩ := h
  exact ab_wr 4 rfl ⟨trivial, trivial, trivial, p0⟩ h
theorem vc_J0_isLatin1_aae02_s2_0 {call : Nat → List Value → ab_S → Option Value → ab_S → Prop} {ro : ab_E} {Q : Option Value → ab_S → Prop}  (mi : Nat → Nat → Int32) (ml : Nat → Nat → Int64)
    (h : Q (some (.int 1)) (ab_G mi ml)) :
    ab_W call ro 0 0 (ab_lk2 pl_J0_isLatin1_aae02) Q (0, [some (.ref 1000002)], [], 0, 0, ab_G mi ml) := by
  refine ab_wk 2 (f' := (if (1 : Int32) = 0 then 17 else 6, [some (.ref 1000002)], [], 0, 0, (ab_G mi ml))) rfl ⟨trivial, trivial, trivial⟩ ?_
  refine ab_wif (c := ((1 : Int32) = 0)) (by decide) ?_
  refine ab_wk 3 (f' := (if (0 : Int32) = 0 then 13 else 17, [some (.ref 1000002)], [], 0, 0, (ab_G mi ml))) rfl ⟨trivial, trivial, trivial, trivial⟩ ?_
  refine ab_wit (c := ((0 : Int32) = 0)) (by decide) ?_
  exact ab_wr 3 rfl ⟨trivial, trivial, (Or.inr rfl)⟩ h
theorem vc_J0_length_8abf5_s2_0 {call : Nat → List Value → ab_S → Option Value → ab_S → Prop} {L : Nat} {xs : Nat → Int32} {Q : Option Value → ab_S → Prop}  (mi : Nat → Nat → Int32) (ml : Nat → Nat → Int64)
    (h : ∃ (r3 : Int32) (mi1 : Nat → Nat → Int32) (ml2 : Nat → Nat → Int64), call 246 [.ref 1000002] (ab_G mi ml) (some (.int r3)) (ab_G mi1 ml2) ∧ (Q (some (.int ((Int32.ofNat 2) >>> (r3 &&& 31)))) (ab_G mi1 ml2))) :
    ab_W call (ab_ro L xs) 0 0 (ab_lk2 pl_J0_length_8abf5) Q (0, [some (.ref 1000002)], [], 0, 0, ab_G mi ml) := by
  obtain ⟨r3, mi1, ml2, hc, h⟩ := h
  refine ab_wc 5 (c := 246) (as := [.ref 1000002]) (pc := 9) (ll := [some (.ref 1000002)]) (st := [.int (Int32.ofNat 2)]) (c1 := 0) (s1 := 0) (g := (ab_G mi ml)) rfl ⟨trivial, trivial, trivial, trivial, trivial⟩ hc ?_
  exact ab_wr 2 rfl ⟨trivial, trivial⟩ h
theorem vc_J0_charAt_5068e_s2_0 {call : Nat → List Value → ab_S → Option Value → ab_S → Prop} {ro : ab_E} {Q : Option Value → ab_S → Prop} (x1 : Int32) (mi : Nat → Nat → Int32) (ml : Nat → Nat → Int64)
    (h : ∃ (r3 : Int32) (mi1 : Nat → Nat → Int32) (ml2 : Nat → Nat → Int64), call 247 [.ref 1000002] (ab_G mi ml) (some (.int r3)) (ab_G mi1 ml2) ∧ (((r3 = 0) → (False)) ∧ (¬ (r3 = 0) → (∃ (r6 : Int32) (mi4 : Nat → Nat → Int32) (ml5 : Nat → Nat → Int64), call 249 [.ref 1000102, .int x1] (ab_G mi1 ml2) (some (.int r6)) (ab_G mi4 ml5) ∧ (narrow .char (.int r6) = .int r6 ∧ (Q (some (.int r6)) (ab_G mi4 ml5))))))) :
    ab_W call ro 0 0 (ab_lk2 pl_J0_charAt_5068e) Q (0, [some (.ref 1000002), some (.int x1)], [], 0, 0, ab_G mi ml) := by
  obtain ⟨r3, mi1, ml2, hc, h⟩ := h
  refine ab_wc 2 (c := 247) (as := [.ref 1000002]) (pc := 4) (ll := [some (.ref 1000002), some (.int x1)]) (st := []) (c1 := 0) (s1 := 0) (g := (ab_G mi ml)) rfl ⟨trivial, trivial⟩ hc ?_
  refine ab_wk 1 (f' := (if r3 = 0 then 16 else 7, [some (.ref 1000002), some (.int x1)], [], 0, 0, (ab_G mi1 ml2))) rfl ⟨trivial, trivial⟩ ?_
  refine ab_wi (fun c => ?_) (fun c => ?_)
  · have h := h.1 c
    exact h.elim
  · have h := h.2 c
    obtain ⟨r6, mi4, ml5, hc, h⟩ := h
    refine ab_wc 4 (c := 249) (as := [.ref 1000102, .int x1]) (pc := 15) (ll := [some (.ref 1000002), some (.int x1)]) (st := []) (c1 := 0) (s1 := 0) (g := (ab_G mi1 ml2)) rfl ⟨trivial, trivial, trivial, trivial⟩ hc ?_
    obtain ⟨p0, h⟩ := h
    exact ab_wr 1 rfl p0 h
theorem vc_J1_charAt_3b067_s2_0 {call : Nat → List Value → ab_S → Option Value → ab_S → Prop} {L : Nat} {xs : Nat → Int32} {Q : Option Value → ab_S → Prop} (x1 : Int32) (mi : Nat → Nat → Int32) (ml : Nat → Nat → Int64)
    (h : ∃ (mi1 : Nat → Nat → Int32) (ml2 : Nat → Nat → Int64), call 248 [.int x1, .int (Int32.ofNat 2)] (ab_G mi ml) none (ab_G mi1 ml2) ∧ (vp_in x1 2 ∧ (narrow .char (.int ((((ab_sb 2 (x1).toNatClampNeg) &&& 255)).toUInt32 % 65536).toInt32) = .int ((((ab_sb 2 (x1).toNatClampNeg) &&& 255)).toUInt32 % 65536).toInt32 ∧ (Q (some (.int ((((ab_sb 2 (x1).toNatClampNeg) &&& 255)).toUInt32 % 65536).toInt32)) (ab_G mi1 ml2))))) :
    ab_W call (ab_ro L xs) 0 0 (ab_lk2 pl_J1_charAt_3b067) Q (0, [some (.ref 1000102), some (.int x1)], [], 0, 0, ab_G mi ml) := by
  obtain ⟨mi1, ml2, hc, h⟩ := h
  refine ab_wc 4 (c := 248) (as := [.int x1, .int (Int32.ofNat 2)]) (pc := 6) (ll := [some (.ref 1000102), some (.int x1)]) (st := []) (c1 := 0) (s1 := 0) (g := (ab_G mi ml)) rfl ⟨trivial, trivial, trivial, trivial⟩ hc ?_
  obtain ⟨p0, p1, h⟩ := h
  exact ab_wr 7 rfl ⟨trivial, trivial, p0, trivial, trivial, trivial, p1⟩ h
theorem vc_J0_coder_7d493_s3_0 {call : Nat → List Value → ab_S → Option Value → ab_S → Prop} {ro : ab_E} {Q : Option Value → ab_S → Prop}  (mi : Nat → Nat → Int32) (ml : Nat → Nat → Int64)
    (h : narrow .byte (.int 0) = .int 0 ∧ (Q (some (.int 0)) (ab_G mi ml))) :
    ab_W call ro 0 0 (ab_lk2 pl_J0_coder_7d493) Q (0, [some (.ref 1000003)], [], 0, 0, ab_G mi ml) := by
  refine ab_wk 2 (f' := (if (1 : Int32) = 0 then 13 else 6, [some (.ref 1000003)], [], 0, 0, (ab_G mi ml))) rfl ⟨trivial, trivial, trivial⟩ ?_
  refine ab_wif (c := ((1 : Int32) = 0)) (by decide) ?_
  obtain ⟨p0, h⟩ := h
  exact ab_wr 4 rfl ⟨trivial, trivial, trivial, p0⟩ h
theorem vc_J0_isLatin1_aae02_s3_0 {call : Nat → List Value → ab_S → Option Value → ab_S → Prop} {ro : ab_E} {Q : Option Value → ab_S → Prop}  (mi : Nat → Nat → Int32) (ml : Nat → Nat → Int64)
    (h : Q (some (.int 1)) (ab_G mi ml)) :
    ab_W call ro 0 0 (ab_lk2 pl_J0_isLatin1_aae02) Q (0, [some (.ref 1000003)], [], 0, 0, ab_G mi ml) := by
  refine ab_wk 2 (f' := (if (1 : Int32) = 0 then 17 else 6, [some (.ref 1000003)], [], 0, 0, (ab_G mi ml))) rfl ⟨trivial, trivial, trivial⟩ ?_
  refine ab_wif (c := ((1 : Int32) = 0)) (by decide) ?_
  refine ab_wk 3 (f' := (if (0 : Int32) = 0 then 13 else 17, [some (.ref 1000003)], [], 0, 0, (ab_G mi ml))) rfl ⟨trivial, trivial, trivial, trivial⟩ ?_
  refine ab_wit (c := ((0 : Int32) = 0)) (by decide) ?_
  exact ab_wr 3 rfl ⟨trivial, trivial, (Or.inr rfl)⟩ h
theorem vc_J0_length_8abf5_s3_0 {call : Nat → List Value → ab_S → Option Value → ab_S → Prop} {L : Nat} {xs : Nat → Int32} {Q : Option Value → ab_S → Prop}  (mi : Nat → Nat → Int32) (ml : Nat → Nat → Int64)
    (h : ∃ (r3 : Int32) (mi1 : Nat → Nat → Int32) (ml2 : Nat → Nat → Int64), call 246 [.ref 1000003] (ab_G mi ml) (some (.int r3)) (ab_G mi1 ml2) ∧ (Q (some (.int ((Int32.ofNat 6) >>> (r3 &&& 31)))) (ab_G mi1 ml2))) :
    ab_W call (ab_ro L xs) 0 0 (ab_lk2 pl_J0_length_8abf5) Q (0, [some (.ref 1000003)], [], 0, 0, ab_G mi ml) := by
  obtain ⟨r3, mi1, ml2, hc, h⟩ := h
  refine ab_wc 5 (c := 246) (as := [.ref 1000003]) (pc := 9) (ll := [some (.ref 1000003)]) (st := [.int (Int32.ofNat 6)]) (c1 := 0) (s1 := 0) (g := (ab_G mi ml)) rfl ⟨trivial, trivial, trivial, trivial, trivial⟩ hc ?_
  exact ab_wr 2 rfl ⟨trivial, trivial⟩ h
theorem vc_J0_charAt_5068e_s3_0 {call : Nat → List Value → ab_S → Option Value → ab_S → Prop} {ro : ab_E} {Q : Option Value → ab_S → Prop} (x1 : Int32) (mi : Nat → Nat → Int32) (ml : Nat → Nat → Int64)
    (h : ∃ (r3 : Int32) (mi1 : Nat → Nat → Int32) (ml2 : Nat → Nat → Int64), call 247 [.ref 1000003] (ab_G mi ml) (some (.int r3)) (ab_G mi1 ml2) ∧ (((r3 = 0) → (False)) ∧ (¬ (r3 = 0) → (∃ (r6 : Int32) (mi4 : Nat → Nat → Int32) (ml5 : Nat → Nat → Int64), call 249 [.ref 1000103, .int x1] (ab_G mi1 ml2) (some (.int r6)) (ab_G mi4 ml5) ∧ (narrow .char (.int r6) = .int r6 ∧ (Q (some (.int r6)) (ab_G mi4 ml5))))))) :
    ab_W call ro 0 0 (ab_lk2 pl_J0_charAt_5068e) Q (0, [some (.ref 1000003), some (.int x1)], [], 0, 0, ab_G mi ml) := by
  obtain ⟨r3, mi1, ml2, hc, h⟩ := h
  refine ab_wc 2 (c := 247) (as := [.ref 1000003]) (pc := 4) (ll := [some (.ref 1000003), some (.int x1)]) (st := []) (c1 := 0) (s1 := 0) (g := (ab_G mi ml)) rfl ⟨trivial, trivial⟩ hc ?_
  refine ab_wk 1 (f' := (if r3 = 0 then 16 else 7, [some (.ref 1000003), some (.int x1)], [], 0, 0, (ab_G mi1 ml2))) rfl ⟨trivial, trivial⟩ ?_
  refine ab_wi (fun c => ?_) (fun c => ?_)
  · have h := h.1 c
    exact h.elim
  · have h := h.2 c
    obtain ⟨r6, mi4, ml5, hc, h⟩ := h
    refine ab_wc 4 (c := 249) (as := [.ref 1000103, .int x1]) (pc := 15) (ll := [some (.ref 1000003), some (.int x1)]) (st := []) (c1 := 0) (s1 := 0) (g := (ab_G mi1 ml2)) rfl ⟨trivial, trivial, trivial, trivial⟩ hc ?_
    obtain ⟨p0, h⟩ := h
    exact ab_wr 1 rfl p0 h
theorem vc_J1_charAt_3b067_s3_0 {call : Nat → List Value → ab_S → Option Value → ab_S → Prop} {L : Nat} {xs : Nat → Int32} {Q : Option Value → ab_S → Prop} (x1 : Int32) (mi : Nat → Nat → Int32) (ml : Nat → Nat → Int64)
    (h : ∃ (mi1 : Nat → Nat → Int32) (ml2 : Nat → Nat → Int64), call 248 [.int x1, .int (Int32.ofNat 6)] (ab_G mi ml) none (ab_G mi1 ml2) ∧ (vp_in x1 6 ∧ (narrow .char (.int ((((ab_sb 3 (x1).toNatClampNeg) &&& 255)).toUInt32 % 65536).toInt32) = .int ((((ab_sb 3 (x1).toNatClampNeg) &&& 255)).toUInt32 % 65536).toInt32 ∧ (Q (some (.int ((((ab_sb 3 (x1).toNatClampNeg) &&& 255)).toUInt32 % 65536).toInt32)) (ab_G mi1 ml2))))) :
    ab_W call (ab_ro L xs) 0 0 (ab_lk2 pl_J1_charAt_3b067) Q (0, [some (.ref 1000103), some (.int x1)], [], 0, 0, ab_G mi ml) := by
  obtain ⟨mi1, ml2, hc, h⟩ := h
  refine ab_wc 4 (c := 248) (as := [.int x1, .int (Int32.ofNat 6)]) (pc := 6) (ll := [some (.ref 1000103), some (.int x1)]) (st := []) (c1 := 0) (s1 := 0) (g := (ab_G mi ml)) rfl ⟨trivial, trivial, trivial, trivial⟩ hc ?_
  obtain ⟨p0, p1, h⟩ := h
  exact ab_wr 7 rfl ⟨trivial, trivial, p0, trivial, trivial, trivial, p1⟩ h
theorem vc_J0_coder_7d493_s4_0 {call : Nat → List Value → ab_S → Option Value → ab_S → Prop} {ro : ab_E} {Q : Option Value → ab_S → Prop}  (mi : Nat → Nat → Int32) (ml : Nat → Nat → Int64)
    (h : narrow .byte (.int 0) = .int 0 ∧ (Q (some (.int 0)) (ab_G mi ml))) :
    ab_W call ro 0 0 (ab_lk2 pl_J0_coder_7d493) Q (0, [some (.ref 1000004)], [], 0, 0, ab_G mi ml) := by
  refine ab_wk 2 (f' := (if (1 : Int32) = 0 then 13 else 6, [some (.ref 1000004)], [], 0, 0, (ab_G mi ml))) rfl ⟨trivial, trivial, trivial⟩ ?_
  refine ab_wif (c := ((1 : Int32) = 0)) (by decide) ?_
  obtain ⟨p0, h⟩ := h
  exact ab_wr 4 rfl ⟨trivial, trivial, trivial, p0⟩ h
theorem vc_J0_isLatin1_aae02_s4_0 {call : Nat → List Value → ab_S → Option Value → ab_S → Prop} {ro : ab_E} {Q : Option Value → ab_S → Prop}  (mi : Nat → Nat → Int32) (ml : Nat → Nat → Int64)
    (h : Q (some (.int 1)) (ab_G mi ml)) :
    ab_W call ro 0 0 (ab_lk2 pl_J0_isLatin1_aae02) Q (0, [some (.ref 1000004)], [], 0, 0, ab_G mi ml) := by
  refine ab_wk 2 (f' := (if (1 : Int32) = 0 then 17 else 6, [some (.ref 1000004)], [], 0, 0, (ab_G mi ml))) rfl ⟨trivial, trivial, trivial⟩ ?_
  refine ab_wif (c := ((1 : Int32) = 0)) (by decide) ?_
  refine ab_wk 3 (f' := (if (0 : Int32) = 0 then 13 else 17, [some (.ref 1000004)], [], 0, 0, (ab_G mi ml))) rfl ⟨trivial, trivial, trivial, trivial⟩ ?_
  refine ab_wit (c := ((0 : Int32) = 0)) (by decide) ?_
  exact ab_wr 3 rfl ⟨trivial, trivial, (Or.inr rfl)⟩ h
theorem vc_J0_length_8abf5_s4_0 {call : Nat → List Value → ab_S → Option Value → ab_S → Prop} {L : Nat} {xs : Nat → Int32} {Q : Option Value → ab_S → Prop}  (mi : Nat → Nat → Int32) (ml : Nat → Nat → Int64)
    (h : ∃ (r3 : Int32) (mi1 : Nat → Nat → Int32) (ml2 : Nat → Nat → Int64), call 246 [.ref 1000004] (ab_G mi ml) (some (.int r3)) (ab_G mi1 ml2) ∧ (Q (some (.int ((Int32.ofNat 4) >>> (r3 &&& 31)))) (ab_G mi1 ml2))) :
    ab_W call (ab_ro L xs) 0 0 (ab_lk2 pl_J0_length_8abf5) Q (0, [some (.ref 1000004)], [], 0, 0, ab_G mi ml) := by
  obtain ⟨r3, mi1, ml2, hc, h⟩ := h
  refine ab_wc 5 (c := 246) (as := [.ref 1000004]) (pc := 9) (ll := [some (.ref 1000004)]) (st := [.int (Int32.ofNat 4)]) (c1 := 0) (s1 := 0) (g := (ab_G mi ml)) rfl ⟨trivial, trivial, trivial, trivial, trivial⟩ hc ?_
  exact ab_wr 2 rfl ⟨trivial, trivial⟩ h
theorem vc_J0_charAt_5068e_s4_0 {call : Nat → List Value → ab_S → Option Value → ab_S → Prop} {ro : ab_E} {Q : Option Value → ab_S → Prop} (x1 : Int32) (mi : Nat → Nat → Int32) (ml : Nat → Nat → Int64)
    (h : ∃ (r3 : Int32) (mi1 : Nat → Nat → Int32) (ml2 : Nat → Nat → Int64), call 247 [.ref 1000004] (ab_G mi ml) (some (.int r3)) (ab_G mi1 ml2) ∧ (((r3 = 0) → (False)) ∧ (¬ (r3 = 0) → (∃ (r6 : Int32) (mi4 : Nat → Nat → Int32) (ml5 : Nat → Nat → Int64), call 249 [.ref 1000104, .int x1] (ab_G mi1 ml2) (some (.int r6)) (ab_G mi4 ml5) ∧ (narrow .char (.int r6) = .int r6 ∧ (Q (some (.int r6)) (ab_G mi4 ml5))))))) :
    ab_W call ro 0 0 (ab_lk2 pl_J0_charAt_5068e) Q (0, [some (.ref 1000004), some (.int x1)], [], 0, 0, ab_G mi ml) := by
  obtain ⟨r3, mi1, ml2, hc, h⟩ := h
  refine ab_wc 2 (c := 247) (as := [.ref 1000004]) (pc := 4) (ll := [some (.ref 1000004), some (.int x1)]) (st := []) (c1 := 0) (s1 := 0) (g := (ab_G mi ml)) rfl ⟨trivial, trivial⟩ hc ?_
  refine ab_wk 1 (f' := (if r3 = 0 then 16 else 7, [some (.ref 1000004), some (.int x1)], [], 0, 0, (ab_G mi1 ml2))) rfl ⟨trivial, trivial⟩ ?_
  refine ab_wi (fun c => ?_) (fun c => ?_)
  · have h := h.1 c
    exact h.elim
  · have h := h.2 c
    obtain ⟨r6, mi4, ml5, hc, h⟩ := h
    refine ab_wc 4 (c := 249) (as := [.ref 1000104, .int x1]) (pc := 15) (ll := [some (.ref 1000004), some (.int x1)]) (st := []) (c1 := 0) (s1 := 0) (g := (ab_G mi1 ml2)) rfl ⟨trivial, trivial, trivial, trivial⟩ hc ?_
    obtain ⟨p0, h⟩ := h
    exact ab_wr 1 rfl p0 h
theorem vc_J1_charAt_3b067_s4_0 {call : Nat → List Value → ab_S → Option Value → ab_S → Prop} {L : Nat} {xs : Nat → Int32} {Q : Option Value → ab_S → Prop} (x1 : Int32) (mi : Nat → Nat → Int32) (ml : Nat → Nat → Int64)
    (h : ∃ (mi1 : Nat → Nat → Int32) (ml2 : Nat → Nat → Int64), call 248 [.int x1, .int (Int32.ofNat 4)] (ab_G mi ml) none (ab_G mi1 ml2) ∧ (vp_in x1 4 ∧ (narrow .char (.int ((((ab_sb 4 (x1).toNatClampNeg) &&& 255)).toUInt32 % 65536).toInt32) = .int ((((ab_sb 4 (x1).toNatClampNeg) &&& 255)).toUInt32 % 65536).toInt32 ∧ (Q (some (.int ((((ab_sb 4 (x1).toNatClampNeg) &&& 255)).toUInt32 % 65536).toInt32)) (ab_G mi1 ml2))))) :
    ab_W call (ab_ro L xs) 0 0 (ab_lk2 pl_J1_charAt_3b067) Q (0, [some (.ref 1000104), some (.int x1)], [], 0, 0, ab_G mi ml) := by
  obtain ⟨mi1, ml2, hc, h⟩ := h
  refine ab_wc 4 (c := 248) (as := [.int x1, .int (Int32.ofNat 4)]) (pc := 6) (ll := [some (.ref 1000104), some (.int x1)]) (st := []) (c1 := 0) (s1 := 0) (g := (ab_G mi ml)) rfl ⟨trivial, trivial, trivial, trivial⟩ hc ?_
  obtain ⟨p0, p1, h⟩ := h
  exact ab_wr 7 rfl ⟨trivial, trivial, p0, trivial, trivial, trivial, p1⟩ h
theorem vc_J0_coder_7d493_s5_0 {call : Nat → List Value → ab_S → Option Value → ab_S → Prop} {ro : ab_E} {Q : Option Value → ab_S → Prop}  (mi : Nat → Nat → Int32) (ml : Nat → Nat → Int64)
    (h : narrow .byte (.int 0) = .int 0 ∧ (Q (some (.int 0)) (ab_G mi ml))) :
    ab_W call ro 0 0 (ab_lk2 pl_J0_coder_7d493) Q (0, [some (.ref 1000005)], [], 0, 0, ab_G mi ml) := by
  refine ab_wk 2 (f' := (if (1 : Int32) = 0 then 13 else 6, [some (.ref 1000005)], [], 0, 0, (ab_G mi ml))) rfl ⟨trivial, trivial, trivial⟩ ?_
  refine ab_wif (c := ((1 : Int32) = 0)) (by decide) ?_
  obtain ⟨p0, h⟩ := h
  exact ab_wr 4 rfl ⟨trivial, trivial, trivial, p0⟩ h
theorem vc_J0_isLatin1_aae02_s5_0 {call : Nat → List Value → ab_S → Option Value → ab_S → Prop} {ro : ab_E} {Q : Option Value → ab_S → Prop}  (mi : Nat → Nat → Int32) (ml : Nat → Nat → Int64)
    (h : Q (some (.int 1)) (ab_G mi ml)) :
    ab_W call ro 0 0 (ab_lk2 pl_J0_isLatin1_aae02) Q (0, [some (.ref 1000005)], [], 0, 0, ab_G mi ml) := by
  refine ab_wk 2 (f' := (if (1 : Int32) = 0 then 17 else 6, [some (.ref 1000005)], [], 0, 0, (ab_G mi ml))) rfl ⟨trivial, trivial, trivial⟩ ?_
  refine ab_wif (c := ((1 : Int32) = 0)) (by decide) ?_
  refine ab_wk 3 (f' := (if (0 : Int32) = 0 then 13 else 17, [some (.ref 1000005)], [], 0, 0, (ab_G mi ml))) rfl ⟨trivial, trivial, trivial, trivial⟩ ?_
  refine ab_wit (c := ((0 : Int32) = 0)) (by decide) ?_
  exact ab_wr 3 rfl ⟨trivial, trivial, (Or.inr rfl)⟩ h
theorem vc_J0_length_8abf5_s5_0 {call : Nat → List Value → ab_S → Option Value → ab_S → Prop} {L : Nat} {xs : Nat → Int32} {Q : Option Value → ab_S → Prop}  (mi : Nat → Nat → Int32) (ml : Nat → Nat → Int64)
    (h : ∃ (r3 : Int32) (mi1 : Nat → Nat → Int32) (ml2 : Nat → Nat → Int64), call 246 [.ref 1000005] (ab_G mi ml) (some (.int r3)) (ab_G mi1 ml2) ∧ (Q (some (.int ((Int32.ofNat 6) >>> (r3 &&& 31)))) (ab_G mi1 ml2))) :
    ab_W call (ab_ro L xs) 0 0 (ab_lk2 pl_J0_length_8abf5) Q (0, [some (.ref 1000005)], [], 0, 0, ab_G mi ml) := by
  obtain ⟨r3, mi1, ml2, hc, h⟩ := h
  refine ab_wc 5 (c := 246) (as := [.ref 1000005]) (pc := 9) (ll := [some (.ref 1000005)]) (st := [.int (Int32.ofNat 6)]) (c1 := 0) (s1 := 0) (g := (ab_G mi ml)) rfl ⟨trivial, trivial, trivial, trivial, trivial⟩ hc ?_
  exact ab_wr 2 rfl ⟨trivial, trivial⟩ h
theorem vc_J0_charAt_5068e_s5_0 {call : Nat → List Value → ab_S → Option Value → ab_S → Prop} {ro : ab_E} {Q : Option Value → ab_S → Prop} (x1 : Int32) (mi : Nat → Nat → Int32) (ml : Nat → Nat → Int64)
    (h : ∃ (r3 : Int32) (mi1 : Nat → Nat → Int32) (ml2 : Nat → Nat → Int64), call 247 [.ref 1000005] (ab_G mi ml) (some (.int r3)) (ab_G mi1 ml2) ∧ (((r3 = 0) → (False)) ∧ (¬ (r3 = 0) → (∃ (r6 : Int32) (mi4 : Nat → Nat → Int32) (ml5 : Nat → Nat → Int64), call 249 [.ref 1000105, .int x1] (ab_G mi1 ml2) (some (.int r6)) (ab_G mi4 ml5) ∧ (narrow .char (.int r6) = .int r6 ∧ (Q (some (.int r6)) (ab_G mi4 ml5))))))) :
    ab_W call ro 0 0 (ab_lk2 pl_J0_charAt_5068e) Q (0, [some (.ref 1000005), some (.int x1)], [], 0, 0, ab_G mi ml) := by
  obtain ⟨r3, mi1, ml2, hc, h⟩ := h
  refine ab_wc 2 (c := 247) (as := [.ref 1000005]) (pc := 4) (ll := [some (.ref 1000005), some (.int x1)]) (st := []) (c1 := 0) (s1 := 0) (g := (ab_G mi ml)) rfl ⟨trivial, trivial⟩ hc ?_
  refine ab_wk 1 (f' := (if r3 = 0 then 16 else 7, [some (.ref 1000005), some (.int x1)], [], 0, 0, (ab_G mi1 ml2))) rfl ⟨trivial, trivial⟩ ?_
  refine ab_wi (fun c => ?_) (fun c => ?_)
  · have h := h.1 c
    exact h.elim
  · have h := h.2 c
    obtain ⟨r6, mi4, ml5, hc, h⟩ := h
    refine ab_wc 4 (c := 249) (as := [.ref 1000105, .int x1]) (pc := 15) (ll := [some (.ref 1000005), some (.int x1)]) (st := []) (c1 := 0) (s1 := 0) (g := (ab_G mi1 ml2)) rfl ⟨trivial, trivial, trivial, trivial⟩ hc ?_
    obtain ⟨p0, h⟩ := h
    exact ab_wr 1 rfl p0 h
theorem vc_J1_charAt_3b067_s5_0 {call : Nat → List Value → ab_S → Option Value → ab_S → Prop} {L : Nat} {xs : Nat → Int32} {Q : Option Value → ab_S → Prop} (x1 : Int32) (mi : Nat → Nat → Int32) (ml : Nat → Nat → Int64)
    (h : ∃ (mi1 : Nat → Nat → Int32) (ml2 : Nat → Nat → Int64), call 248 [.int x1, .int (Int32.ofNat 6)] (ab_G mi ml) none (ab_G mi1 ml2) ∧ (vp_in x1 6 ∧ (narrow .char (.int ((((ab_sb 5 (x1).toNatClampNeg) &&& 255)).toUInt32 % 65536).toInt32) = .int ((((ab_sb 5 (x1).toNatClampNeg) &&& 255)).toUInt32 % 65536).toInt32 ∧ (Q (some (.int ((((ab_sb 5 (x1).toNatClampNeg) &&& 255)).toUInt32 % 65536).toInt32)) (ab_G mi1 ml2))))) :
    ab_W call (ab_ro L xs) 0 0 (ab_lk2 pl_J1_charAt_3b067) Q (0, [some (.ref 1000105), some (.int x1)], [], 0, 0, ab_G mi ml) := by
  obtain ⟨mi1, ml2, hc, h⟩ := h
  refine ab_wc 4 (c := 248) (as := [.int x1, .int (Int32.ofNat 6)]) (pc := 6) (ll := [some (.ref 1000105), some (.int x1)]) (st := []) (c1 := 0) (s1 := 0) (g := (ab_G mi ml)) rfl ⟨trivial, trivial, trivial, trivial⟩ hc ?_
  obtain ⟨p0, p1, h⟩ := h
  exact ab_wr 7 rfl ⟨trivial, trivial, p0, trivial, trivial, trivial, p1⟩ h
theorem vc_J0_coder_7d493_s6_0 {call : Nat → List Value → ab_S → Option Value → ab_S → Prop} {ro : ab_E} {Q : Option Value → ab_S → Prop}  (mi : Nat → Nat → Int32) (ml : Nat → Nat → Int64)
    (h : narrow .byte (.int 0) = .int 0 ∧ (Q (some (.int 0)) (ab_G mi ml))) :
    ab_W call ro 0 0 (ab_lk2 pl_J0_coder_7d493) Q (0, [some (.ref 1000006)], [], 0, 0, ab_G mi ml) := by
  refine ab_wk 2 (f' := (if (1 : Int32) = 0 then 13 else 6, [some (.ref 1000006)], [], 0, 0, (ab_G mi ml))) rfl ⟨trivial, trivial, trivial⟩ ?_
  refine ab_wif (c := ((1 : Int32) = 0)) (by decide) ?_
  obtain ⟨p0, h⟩ := h
  exact ab_wr 4 rfl ⟨trivial, trivial, trivial, p0⟩ h
theorem vc_J0_isLatin1_aae02_s6_0 {call : Nat → List Value → ab_S → Option Value → ab_S → Prop} {ro : ab_E} {Q : Option Value → ab_S → Prop}  (mi : Nat → Nat → Int32) (ml : Nat → Nat → Int64)
    (h : Q (some (.int 1)) (ab_G mi ml)) :
    ab_W call ro 0 0 (ab_lk2 pl_J0_isLatin1_aae02) Q (0, [some (.ref 1000006)], [], 0, 0, ab_G mi ml) := by
  refine ab_wk 2 (f' := (if (1 : Int32) = 0 then 17 else 6, [some (.ref 1000006)], [], 0, 0, (ab_G mi ml))) rfl ⟨trivial, trivial, trivial⟩ ?_
  refine ab_wif (c := ((1 : Int32) = 0)) (by decide) ?_
  refine ab_wk 3 (f' := (if (0 : Int32) = 0 then 13 else 17, [some (.ref 1000006)], [], 0, 0, (ab_G mi ml))) rfl ⟨trivial, trivial, trivial, trivial⟩ ?_
  refine ab_wit (c := ((0 : Int32) = 0)) (by decide) ?_
  exact ab_wr 3 rfl ⟨trivial, trivial, (Or.inr rfl)⟩ h
theorem vc_J0_length_8abf5_s6_0 {call : Nat → List Value → ab_S → Option Value → ab_S → Prop} {L : Nat} {xs : Nat → Int32} {Q : Option Value → ab_S → Prop}  (mi : Nat → Nat → Int32) (ml : Nat → Nat → Int64)
    (h : ∃ (r3 : Int32) (mi1 : Nat → Nat → Int32) (ml2 : Nat → Nat → Int64), call 246 [.ref 1000006] (ab_G mi ml) (some (.int r3)) (ab_G mi1 ml2) ∧ (Q (some (.int ((Int32.ofNat 3) >>> (r3 &&& 31)))) (ab_G mi1 ml2))) :
    ab_W call (ab_ro L xs) 0 0 (ab_lk2 pl_J0_length_8abf5) Q (0, [some (.ref 1000006)], [], 0, 0, ab_G mi ml) := by
  obtain ⟨r3, mi1, ml2, hc, h⟩ := h
  refine ab_wc 5 (c := 246) (as := [.ref 1000006]) (pc := 9) (ll := [some (.ref 1000006)]) (st := [.int (Int32.ofNat 3)]) (c1 := 0) (s1 := 0) (g := (ab_G mi ml)) rfl ⟨trivial, trivial, trivial, trivial, trivial⟩ hc ?_
  exact ab_wr 2 rfl ⟨trivial, trivial⟩ h
theorem vc_J0_charAt_5068e_s6_0 {call : Nat → List Value → ab_S → Option Value → ab_S → Prop} {ro : ab_E} {Q : Option Value → ab_S → Prop} (x1 : Int32) (mi : Nat → Nat → Int32) (ml : Nat → Nat → Int64)
    (h : ∃ (r3 : Int32) (mi1 : Nat → Nat → Int32) (ml2 : Nat → Nat → Int64), call 247 [.ref 1000006] (ab_G mi ml) (some (.int r3)) (ab_G mi1 ml2) ∧ (((r3 = 0) → (False)) ∧ (¬ (r3 = 0) → (∃ (r6 : Int32) (mi4 : Nat → Nat → Int32) (ml5 : Nat → Nat → Int64), call 249 [.ref 1000106, .int x1] (ab_G mi1 ml2) (some (.int r6)) (ab_G mi4 ml5) ∧ (narrow .char (.int r6) = .int r6 ∧ (Q (some (.int r6)) (ab_G mi4 ml5))))))) :
    ab_W call ro 0 0 (ab_lk2 pl_J0_charAt_5068e) Q (0, [some (.ref 1000006), some (.int x1)], [], 0, 0, ab_G mi ml) := by
  obtain ⟨r3, mi1, ml2, hc, h⟩ := h
  refine ab_wc 2 (c := 247) (as := [.ref 1000006]) (pc := 4) (ll := [some (.ref 1000006), some (.int x1)]) (st := []) (c1 := 0) (s1 := 0) (g := (ab_G mi ml)) rfl ⟨trivial, trivial⟩ hc ?_
  refine ab_wk 1 (f' := (if r3 = 0 then 16 else 7, [some (.ref 1000006), some (.int x1)], [], 0, 0, (ab_G mi1 ml2))) rfl ⟨trivial, trivial⟩ ?_
  refine ab_wi (fun c => ?_) (fun c => ?_)
  · have h := h.1 c
    exact h.elim
  · have h := h.2 c
    obtain ⟨r6, mi4, ml5, hc, h⟩ := h
    refine ab_wc 4 (c := 249) (as := [.ref 1000106, .int x1]) (pc := 15) (ll := [some (.ref 1000006), some (.int x1)]) (st := []) (c1 := 0) (s1 := 0) (g := (ab_G mi1 ml2)) rfl ⟨trivial, trivial, trivial, trivial⟩ hc ?_
    obtain ⟨p0, h⟩ := h
    exact ab_wr 1 rfl p0 h
theorem vc_J1_charAt_3b067_s6_0 {call : Nat → List Value → ab_S → Option Value → ab_S → Prop} {L : Nat} {xs : Nat → Int32} {Q : Option Value → ab_S → Prop} (x1 : Int32) (mi : Nat → Nat → Int32) (ml : Nat → Nat → Int64)
    (h : ∃ (mi1 : Nat → Nat → Int32) (ml2 : Nat → Nat → Int64), call 248 [.int x1, .int (Int32.ofNat 3)] (ab_G mi ml) none (ab_G mi1 ml2) ∧ (vp_in x1 3 ∧ (narrow .char (.int ((((ab_sb 6 (x1).toNatClampNeg) &&& 255)).toUInt32 % 65536).toInt32) = .int ((((ab_sb 6 (x1).toNatClampNeg) &&& 255)).toUInt32 % 65536).toInt32 ∧ (Q (some (.int ((((ab_sb 6 (x1).toNatClampNeg) &&& 255)).toUInt32 % 65536).toInt32)) (ab_G mi1 ml2))))) :
    ab_W call (ab_ro L xs) 0 0 (ab_lk2 pl_J1_charAt_3b067) Q (0, [some (.ref 1000106), some (.int x1)], [], 0, 0, ab_G mi ml) := by
  obtain ⟨mi1, ml2, hc, h⟩ := h
  refine ab_wc 4 (c := 248) (as := [.int x1, .int (Int32.ofNat 3)]) (pc := 6) (ll := [some (.ref 1000106), some (.int x1)]) (st := []) (c1 := 0) (s1 := 0) (g := (ab_G mi ml)) rfl ⟨trivial, trivial, trivial, trivial⟩ hc ?_
  obtain ⟨p0, p1, h⟩ := h
  exact ab_wr 7 rfl ⟨trivial, trivial, p0, trivial, trivial, trivial, p1⟩ h
theorem vc_J0_coder_7d493_s7_0 {call : Nat → List Value → ab_S → Option Value → ab_S → Prop} {ro : ab_E} {Q : Option Value → ab_S → Prop}  (mi : Nat → Nat → Int32) (ml : Nat → Nat → Int64)
    (h : narrow .byte (.int 0) = .int 0 ∧ (Q (some (.int 0)) (ab_G mi ml))) :
    ab_W call ro 0 0 (ab_lk2 pl_J0_coder_7d493) Q (0, [some (.ref 1000007)], [], 0, 0, ab_G mi ml) := by
  refine ab_wk 2 (f' := (if (1 : Int32) = 0 then 13 else 6, [some (.ref 1000007)], [], 0, 0, (ab_G mi ml))) rfl ⟨trivial, trivial, trivial⟩ ?_
  refine ab_wif (c := ((1 : Int32) = 0)) (by decide) ?_
  obtain ⟨p0, h⟩ := h
  exact ab_wr 4 rfl ⟨trivial, trivial, trivial, p0⟩ h
theorem vc_J0_isLatin1_aae02_s7_0 {call : Nat → List Value → ab_S → Option Value → ab_S → Prop} {ro : ab_E} {Q : Option Value → ab_S → Prop}  (mi : Nat → Nat → Int32) (ml : Nat → Nat → Int64)
    (h : Q (some (.int 1)) (ab_G mi ml)) :
    ab_W call ro 0 0 (ab_lk2 pl_J0_isLatin1_aae02) Q (0, [some (.ref 1000007)], [], 0, 0, ab_G mi ml) := by
  refine ab_wk 2 (f' := (if (1 : Int32) = 0 then 17 else 6, [some (.ref 1000007)], [], 0, 0, (ab_G mi ml))) rfl ⟨trivial, trivial, trivial⟩ ?_
  refine ab_wif (c := ((1 : Int32) = 0)) (by decide) ?_
  refine ab_wk 3 (f' := (if (0 : Int32) = 0 then 13 else 17, [some (.ref 1000007)], [], 0, 0, (ab_G mi ml))) rfl ⟨trivial, trivial, trivial, trivial⟩ ?_
  refine ab_wit (c := ((0 : Int32) = 0)) (by decide) ?_
  exact ab_wr 3 rfl ⟨trivial, trivial, (Or.inr rfl)⟩ h
theorem vc_J0_length_8abf5_s7_0 {call : Nat → List Value → ab_S → Option Value → ab_S → Prop} {L : Nat} {xs : Nat → Int32} {Q : Option Value → ab_S → Prop}  (mi : Nat → Nat → Int32) (ml : Nat → Nat → Int64)
    (h : ∃ (r3 : Int32) (mi1 : Nat → Nat → Int32) (ml2 : Nat → Nat → Int64), call 246 [.ref 1000007] (ab_G mi ml) (some (.int r3)) (ab_G mi1 ml2) ∧ (Q (some (.int ((Int32.ofNat 2) >>> (r3 &&& 31)))) (ab_G mi1 ml2))) :
    ab_W call (ab_ro L xs) 0 0 (ab_lk2 pl_J0_length_8abf5) Q (0, [some (.ref 1000007)], [], 0, 0, ab_G mi ml) := by
  obtain ⟨r3, mi1, ml2, hc, h⟩ := h
  refine ab_wc 5 (c := 246) (as := [.ref 1000007]) (pc := 9) (ll := [some (.ref 1000007)]) (st := [.int (Int32.ofNat 2)]) (c1 := 0) (s1 := 0) (g := (ab_G mi ml)) rfl ⟨trivial, trivial, trivial, trivial, trivial⟩ hc ?_
  exact ab_wr 2 rfl ⟨trivial, trivial⟩ h
theorem vc_J0_charAt_5068e_s7_0 {call : Nat → List Value → ab_S → Option Value → ab_S → Prop} {ro : ab_E} {Q : Option Value → ab_S → Prop} (x1 : Int32) (mi : Nat → Nat → Int32) (ml : Nat → Nat → Int64)
    (h : ∃ (r3 : Int32) (mi1 : Nat → Nat → Int32) (ml2 : Nat → Nat → Int64), call 247 [.ref 1000007] (ab_G mi ml) (some (.int r3)) (ab_G mi1 ml2) ∧ (((r3 = 0) → (False)) ∧ (¬ (r3 = 0) → (∃ (r6 : Int32) (mi4 : Nat → Nat → Int32) (ml5 : Nat → Nat → Int64), call 249 [.ref 1000107, .int x1] (ab_G mi1 ml2) (some (.int r6)) (ab_G mi4 ml5) ∧ (narrow .char (.int r6) = .int r6 ∧ (Q (some (.int r6)) (ab_G mi4 ml5))))))) :
    ab_W call ro 0 0 (ab_lk2 pl_J0_charAt_5068e) Q (0, [some (.ref 1000007), some (.int x1)], [], 0, 0, ab_G mi ml) := by
  obtain ⟨r3, mi1, ml2, hc, h⟩ := h
  refine ab_wc 2 (c := 247) (as := [.ref 1000007]) (pc := 4) (ll := [some (.ref 1000007), some (.int x1)]) (st := []) (c1 := 0) (s1 := 0) (g := (ab_G mi ml)) rfl ⟨trivial, trivial⟩ hc ?_
  refine ab_wk 1 (f' := (if r3 = 0 then 16 else 7, [some (.ref 1000007), some (.int x1)], [], 0, 0, (ab_G mi1 ml2))) rfl ⟨trivial, trivial⟩ ?_
  refine ab_wi (fun c => ?_) (fun c => ?_)
  · have h := h.1 c
    exact h.elim
  · have h := h.2 c
    obtain ⟨r6, mi4, ml5, hc, h⟩ := h
    refine ab_wc 4 (c := 249) (as := [.ref 1000107, .int x1]) (pc := 15) (ll := [some (.ref 1000007), some (.int x1)]) (st := []) (c1 := 0) (s1 := 0) (g := (ab_G mi1 ml2)) rfl ⟨trivial, trivial, trivial, trivial⟩ hc ?_
    obtain ⟨p0, h⟩ := h
    exact ab_wr 1 rfl p0 h
theorem vc_J1_charAt_3b067_s7_0 {call : Nat → List Value → ab_S → Option Value → ab_S → Prop} {L : Nat} {xs : Nat → Int32} {Q : Option Value → ab_S → Prop} (x1 : Int32) (mi : Nat → Nat → Int32) (ml : Nat → Nat → Int64)
    (h : ∃ (mi1 : Nat → Nat → Int32) (ml2 : Nat → Nat → Int64), call 248 [.int x1, .int (Int32.ofNat 2)] (ab_G mi ml) none (ab_G mi1 ml2) ∧ (vp_in x1 2 ∧ (narrow .char (.int ((((ab_sb 7 (x1).toNatClampNeg) &&& 255)).toUInt32 % 65536).toInt32) = .int ((((ab_sb 7 (x1).toNatClampNeg) &&& 255)).toUInt32 % 65536).toInt32 ∧ (Q (some (.int ((((ab_sb 7 (x1).toNatClampNeg) &&& 255)).toUInt32 % 65536).toInt32)) (ab_G mi1 ml2))))) :
    ab_W call (ab_ro L xs) 0 0 (ab_lk2 pl_J1_charAt_3b067) Q (0, [some (.ref 1000107), some (.int x1)], [], 0, 0, ab_G mi ml) := by
  obtain ⟨mi1, ml2, hc, h⟩ := h
  refine ab_wc 4 (c := 248) (as := [.int x1, .int (Int32.ofNat 2)]) (pc := 6) (ll := [some (.ref 1000107), some (.int x1)]) (st := []) (c1 := 0) (s1 := 0) (g := (ab_G mi ml)) rfl ⟨trivial, trivial, trivial, trivial⟩ hc ?_
  obtain ⟨p0, p1, h⟩ := h
  exact ab_wr 7 rfl ⟨trivial, trivial, p0, trivial, trivial, trivial, p1⟩ h
theorem vc_J0_coder_7d493_s8_0 {call : Nat → List Value → ab_S → Option Value → ab_S → Prop} {ro : ab_E} {Q : Option Value → ab_S → Prop}  (mi : Nat → Nat → Int32) (ml : Nat → Nat → Int64)
    (h : narrow .byte (.int 0) = .int 0 ∧ (Q (some (.int 0)) (ab_G mi ml))) :
    ab_W call ro 0 0 (ab_lk2 pl_J0_coder_7d493) Q (0, [some (.ref 1000008)], [], 0, 0, ab_G mi ml) := by
  refine ab_wk 2 (f' := (if (1 : Int32) = 0 then 13 else 6, [some (.ref 1000008)], [], 0, 0, (ab_G mi ml))) rfl ⟨trivial, trivial, trivial⟩ ?_
  refine ab_wif (c := ((1 : Int32) = 0)) (by decide) ?_
  obtain ⟨p0, h⟩ := h
  exact ab_wr 4 rfl ⟨trivial, trivial, trivial, p0⟩ h
theorem vc_J0_isLatin1_aae02_s8_0 {call : Nat → List Value → ab_S → Option Value → ab_S → Prop} {ro : ab_E} {Q : Option Value → ab_S → Prop}  (mi : Nat → Nat → Int32) (ml : Nat → Nat → Int64)
    (h : Q (some (.int 1)) (ab_G mi ml)) :
    ab_W call ro 0 0 (ab_lk2 pl_J0_isLatin1_aae02) Q (0, [some (.ref 1000008)], [], 0, 0, ab_G mi ml) := by
  refine ab_wk 2 (f' := (if (1 : Int32) = 0 then 17 else 6, [some (.ref 1000008)], [], 0, 0, (ab_G mi ml))) rfl ⟨trivial, trivial, trivial⟩ ?_
  refine ab_wif (c := ((1 : Int32) = 0)) (by decide) ?_
  refine ab_wk 3 (f' := (if (0 : Int32) = 0 then 13 else 17, [some (.ref 1000008)], [], 0, 0, (ab_G mi ml))) rfl ⟨trivial, trivial, trivial, trivial⟩ ?_
  refine ab_wit (c := ((0 : Int32) = 0)) (by decide) ?_
  exact ab_wr 3 rfl ⟨trivial, trivial, (Or.inr rfl)⟩ h
theorem vc_J0_length_8abf5_s8_0 {call : Nat → List Value → ab_S → Option Value → ab_S → Prop} {L : Nat} {xs : Nat → Int32} {Q : Option Value → ab_S → Prop}  (mi : Nat → Nat → Int32) (ml : Nat → Nat → Int64)
    (h : ∃ (r3 : Int32) (mi1 : Nat → Nat → Int32) (ml2 : Nat → Nat → Int64), call 246 [.ref 1000008] (ab_G mi ml) (some (.int r3)) (ab_G mi1 ml2) ∧ (Q (some (.int ((Int32.ofNat 3) >>> (r3 &&& 31)))) (ab_G mi1 ml2))) :
    ab_W call (ab_ro L xs) 0 0 (ab_lk2 pl_J0_length_8abf5) Q (0, [some (.ref 1000008)], [], 0, 0, ab_G mi ml) := by
  obtain ⟨r3, mi1, ml2, hc, h⟩ := h
  refine ab_wc 5 (c := 246) (as := [.ref 1000008]) (pc := 9) (ll := [some (.ref 1000008)]) (st := [.int (Int32.ofNat 3)]) (c1 := 0) (s1 := 0) (g := (ab_G mi ml)) rfl ⟨trivial, trivial, trivial, trivial, trivial⟩ hc ?_
  exact ab_wr 2 rfl ⟨trivial, trivial⟩ h
theorem vc_J0_charAt_5068e_s8_0 {call : Nat → List Value → ab_S → Option Value → ab_S → Prop} {ro : ab_E} {Q : Option Value → ab_S → Prop} (x1 : Int32) (mi : Nat → Nat → Int32) (ml : Nat → Nat → Int64)
    (h : ∃ (r3 : Int32) (mi1 : Nat → Nat → Int32) (ml2 : Nat → Nat → Int64), call 247 [.ref 1000008] (ab_G mi ml) (some (.int r3)) (ab_G mi1 ml2) ∧ (((r3 = 0) → (False)) ∧ (¬ (r3 = 0) → (∃ (r6 : Int32) (mi4 : Nat → Nat → Int32) (ml5 : Nat → Nat → Int64), call 249 [.ref 1000108, .int x1] (ab_G mi1 ml2) (some (.int r6)) (ab_G mi4 ml5) ∧ (narrow .char (.int r6) = .int r6 ∧ (Q (some (.int r6)) (ab_G mi4 ml5))))))) :
    ab_W call ro 0 0 (ab_lk2 pl_J0_charAt_5068e) Q (0, [some (.ref 1000008), some (.int x1)], [], 0, 0, ab_G mi ml) := by
  obtain ⟨r3, mi1, ml2, hc, h⟩ := h
  refine ab_wc 2 (c := 247) (as := [.ref 1000008]) (pc := 4) (ll := [some (.ref 1000008), some (.int x1)]) (st := []) (c1 := 0) (s1 := 0) (g := (ab_G mi ml)) rfl ⟨trivial, trivial⟩ hc ?_
  refine ab_wk 1 (f' := (if r3 = 0 then 16 else 7, [some (.ref 1000008), some (.int x1)], [], 0, 0, (ab_G mi1 ml2))) rfl ⟨trivial, trivial⟩ ?_
  refine ab_wi (fun c => ?_) (fun c => ?_)
  · have h := h.1 c
    exact h.elim
  · have h := h.2 c
    obtain ⟨r6, mi4, ml5, hc, h⟩ := h
    refine ab_wc 4 (c := 249) (as := [.ref 1000108, .int x1]) (pc := 15) (ll := [some (.ref 1000008), some (.int x1)]) (st := []) (c1 := 0) (s1 := 0) (g := (ab_G mi1 ml2)) rfl ⟨trivial, trivial, trivial, trivial⟩ hc ?_
    obtain ⟨p0, h⟩ := h
    exact ab_wr 1 rfl p0 h
theorem vc_J1_charAt_3b067_s8_0 {call : Nat → List Value → ab_S → Option Value → ab_S → Prop} {L : Nat} {xs : Nat → Int32} {Q : Option Value → ab_S → Prop} (x1 : Int32) (mi : Nat → Nat → Int32) (ml : Nat → Nat → Int64)
    (h : ∃ (mi1 : Nat → Nat → Int32) (ml2 : Nat → Nat → Int64), call 248 [.int x1, .int (Int32.ofNat 3)] (ab_G mi ml) none (ab_G mi1 ml2) ∧ (vp_in x1 3 ∧ (narrow .char (.int ((((ab_sb 8 (x1).toNatClampNeg) &&& 255)).toUInt32 % 65536).toInt32) = .int ((((ab_sb 8 (x1).toNatClampNeg) &&& 255)).toUInt32 % 65536).toInt32 ∧ (Q (some (.int ((((ab_sb 8 (x1).toNatClampNeg) &&& 255)).toUInt32 % 65536).toInt32)) (ab_G mi1 ml2))))) :
    ab_W call (ab_ro L xs) 0 0 (ab_lk2 pl_J1_charAt_3b067) Q (0, [some (.ref 1000108), some (.int x1)], [], 0, 0, ab_G mi ml) := by
  obtain ⟨mi1, ml2, hc, h⟩ := h
  refine ab_wc 4 (c := 248) (as := [.int x1, .int (Int32.ofNat 3)]) (pc := 6) (ll := [some (.ref 1000108), some (.int x1)]) (st := []) (c1 := 0) (s1 := 0) (g := (ab_G mi ml)) rfl ⟨trivial, trivial, trivial, trivial⟩ hc ?_
  obtain ⟨p0, p1, h⟩ := h
  exact ab_wr 7 rfl ⟨trivial, trivial, p0, trivial, trivial, trivial, p1⟩ h
theorem vc_J0_coder_7d493_s9_0 {call : Nat → List Value → ab_S → Option Value → ab_S → Prop} {ro : ab_E} {Q : Option Value → ab_S → Prop}  (mi : Nat → Nat → Int32) (ml : Nat → Nat → Int64)
    (h : narrow .byte (.int 0) = .int 0 ∧ (Q (some (.int 0)) (ab_G mi ml))) :
    ab_W call ro 0 0 (ab_lk2 pl_J0_coder_7d493) Q (0, [some (.ref 1000009)], [], 0, 0, ab_G mi ml) := by
  refine ab_wk 2 (f' := (if (1 : Int32) = 0 then 13 else 6, [some (.ref 1000009)], [], 0, 0, (ab_G mi ml))) rfl ⟨trivial, trivial, trivial⟩ ?_
  refine ab_wif (c := ((1 : Int32) = 0)) (by decide) ?_
  obtain ⟨p0, h⟩ := h
  exact ab_wr 4 rfl ⟨trivial, trivial, trivial, p0⟩ h
theorem vc_J0_isLatin1_aae02_s9_0 {call : Nat → List Value → ab_S → Option Value → ab_S → Prop} {ro : ab_E} {Q : Option Value → ab_S → Prop}  (mi : Nat → Nat → Int32) (ml : Nat → Nat → Int64)
    (h : Q (some (.int 1)) (ab_G mi ml)) :
    ab_W call ro 0 0 (ab_lk2 pl_J0_isLatin1_aae02) Q (0, [some (.ref 1000009)], [], 0, 0, ab_G mi ml) := by
  refine ab_wk 2 (f' := (if (1 : Int32) = 0 then 17 else 6, [some (.ref 1000009)], [], 0, 0, (ab_G mi ml))) rfl ⟨trivial, trivial, trivial⟩ ?_
  refine ab_wif (c := ((1 : Int32) = 0)) (by decide) ?_
  refine ab_wk 3 (f' := (if (0 : Int32) = 0 then 13 else 17, [some (.ref 1000009)], [], 0, 0, (ab_G mi ml))) rfl ⟨trivial, trivial, trivial, trivial⟩ ?_
  refine ab_wit (c := ((0 : Int32) = 0)) (by decide) ?_
  exact ab_wr 3 rfl ⟨trivial, trivial, (Or.inr rfl)⟩ h
theorem vc_J0_length_8abf5_s9_0 {call : Nat → List Value → ab_S → Option Value → ab_S → Prop} {L : Nat} {xs : Nat → Int32} {Q : Option Value → ab_S → Prop}  (mi : Nat → Nat → Int32) (ml : Nat → Nat → Int64)
    (h : ∃ (r3 : Int32) (mi1 : Nat → Nat → Int32) (ml2 : Nat → Nat → Int64), call 246 [.ref 1000009] (ab_G mi ml) (some (.int r3)) (ab_G mi1 ml2) ∧ (Q (some (.int ((Int32.ofNat 4) >>> (r3 &&& 31)))) (ab_G mi1 ml2))) :
    ab_W call (ab_ro L xs) 0 0 (ab_lk2 pl_J0_length_8abf5) Q (0, [some (.ref 1000009)], [], 0, 0, ab_G mi ml) := by
  obtain ⟨r3, mi1, ml2, hc, h⟩ := h
  refine ab_wc 5 (c := 246) (as := [.ref 1000009]) (pc := 9) (ll := [some (.ref 1000009)]) (st := [.int (Int32.ofNat 4)]) (c1 := 0) (s1 := 0) (g := (ab_G mi ml)) rfl ⟨trivial, trivial, trivial, trivial, trivial⟩ hc ?_
  exact ab_wr 2 rfl ⟨trivial, trivial⟩ h
theorem vc_J0_charAt_5068e_s9_0 {call : Nat → List Value → ab_S → Option Value → ab_S → Prop} {ro : ab_E} {Q : Option Value → ab_S → Prop} (x1 : Int32) (mi : Nat → Nat → Int32) (ml : Nat → Nat → Int64)
    (h : ∃ (r3 : Int32) (mi1 : Nat → Nat → Int32) (ml2 : Nat → Nat → Int64), call 247 [.ref 1000009] (ab_G mi ml) (some (.int r3)) (ab_G mi1 ml2) ∧ (((r3 = 0) → (False)) ∧ (¬ (r3 = 0) → (∃ (r6 : Int32) (mi4 : Nat → Nat → Int32) (ml5 : Nat → Nat → Int64), call 249 [.ref 1000109, .int x1] (ab_G mi1 ml2) (some (.int r6)) (ab_G mi4 ml5) ∧ (narrow .char (.int r6) = .int r6 ∧ (Q (some (.int r6)) (ab_G mi4 ml5))))))) :
    ab_W call ro 0 0 (ab_lk2 pl_J0_charAt_5068e) Q (0, [some (.ref 1000009), some (.int x1)], [], 0, 0, ab_G mi ml) := by
  obtain ⟨r3, mi1, ml2, hc, h⟩ := h
  refine ab_wc 2 (c := 247) (as := [.ref 1000009]) (pc := 4) (ll := [some (.ref 1000009), some (.int x1)]) (st := []) (c1 := 0) (s1 := 0) (g := (ab_G mi ml)) rfl ⟨trivial, trivial⟩ hc ?_
  refine ab_wk 1 (f' := (if r3 = 0 then 16 else 7, [some (.ref 1000009), some (.int x1)], [], 0, 0, (ab_G mi1 ml2))) rfl ⟨trivial, trivial⟩ ?_
  refine ab_wi (fun c => ?_) (fun c => ?_)
  · have h := h.1 c
    exact h.elim
  · have h := h.2 c
    obtain ⟨r6, mi4, ml5, hc, h⟩ := h
    refine ab_wc 4 (c := 249) (as := [.ref 1000109, .int x1]) (pc := 15) (ll := [some (.ref 1000009), some (.int x1)]) (st := []) (c1 := 0) (s1 := 0) (g := (ab_G mi1 ml2)) rfl ⟨trivial, trivial, trivial, trivial⟩ hc ?_
    obtain ⟨p0, h⟩ := h
    exact ab_wr 1 rfl p0 h
theorem vc_J1_charAt_3b067_s9_0 {call : Nat → List Value → ab_S → Option Value → ab_S → Prop} {L : Nat} {xs : Nat → Int32} {Q : Option Value → ab_S → Prop} (x1 : Int32) (mi : Nat → Nat → Int32) (ml : Nat → Nat → Int64)
    (h : ∃ (mi1 : Nat → Nat → Int32) (ml2 : Nat → Nat → Int64), call 248 [.int x1, .int (Int32.ofNat 4)] (ab_G mi ml) none (ab_G mi1 ml2) ∧ (vp_in x1 4 ∧ (narrow .char (.int ((((ab_sb 9 (x1).toNatClampNeg) &&& 255)).toUInt32 % 65536).toInt32) = .int ((((ab_sb 9 (x1).toNatClampNeg) &&& 255)).toUInt32 % 65536).toInt32 ∧ (Q (some (.int ((((ab_sb 9 (x1).toNatClampNeg) &&& 255)).toUInt32 % 65536).toInt32)) (ab_G mi1 ml2))))) :
    ab_W call (ab_ro L xs) 0 0 (ab_lk2 pl_J1_charAt_3b067) Q (0, [some (.ref 1000109), some (.int x1)], [], 0, 0, ab_G mi ml) := by
  obtain ⟨mi1, ml2, hc, h⟩ := h
  refine ab_wc 4 (c := 248) (as := [.int x1, .int (Int32.ofNat 4)]) (pc := 6) (ll := [some (.ref 1000109), some (.int x1)]) (st := []) (c1 := 0) (s1 := 0) (g := (ab_G mi ml)) rfl ⟨trivial, trivial, trivial, trivial⟩ hc ?_
  obtain ⟨p0, p1, h⟩ := h
  exact ab_wr 7 rfl ⟨trivial, trivial, p0, trivial, trivial, trivial, p1⟩ h
theorem vc_J0_coder_7d493_s10_0 {call : Nat → List Value → ab_S → Option Value → ab_S → Prop} {ro : ab_E} {Q : Option Value → ab_S → Prop}  (mi : Nat → Nat → Int32) (ml : Nat → Nat → Int64)
    (h : narrow .byte (.int 0) = .int 0 ∧ (Q (some (.int 0)) (ab_G mi ml))) :
    ab_W call ro 0 0 (ab_lk2 pl_J0_coder_7d493) Q (0, [some (.ref 1000010)], [], 0, 0, ab_G mi ml) := by
  refine ab_wk 2 (f' := (if (1 : Int32) = 0 then 13 else 6, [some (.ref 1000010)], [], 0, 0, (ab_G mi ml))) rfl ⟨trivial, trivial, trivial⟩ ?_
  refine ab_wif (c := ((1 : Int32) = 0)) (by decide) ?_
  obtain ⟨p0, h⟩ := h
  exact ab_wr 4 rfl ⟨trivial, trivial, trivial, p0⟩ h
theorem vc_J0_isLatin1_aae02_s10_0 {call : Nat → List Value → ab_S → Option Value → ab_S → Prop} {ro : ab_E} {Q : Option Value → ab_S → Prop}  (mi : Nat → Nat → Int32) (ml : Nat → Nat → Int64)
    (h : Q (some (.int 1)) (ab_G mi ml)) :
    ab_W call ro 0 0 (ab_lk2 pl_J0_isLatin1_aae02) Q (0, [some (.ref 1000010)], [], 0, 0, ab_G mi ml) := by
  refine ab_wk 2 (f' := (if (1 : Int32) = 0 then 17 else 6, [some (.ref 1000010)], [], 0, 0, (ab_G mi ml))) rfl ⟨trivial, trivial, trivial⟩ ?_
  refine ab_wif (c := ((1 : Int32) = 0)) (by decide) ?_
  refine ab_wk 3 (f' := (if (0 : Int32) = 0 then 13 else 17, [some (.ref 1000010)], [], 0, 0, (ab_G mi ml))) rfl ⟨trivial, trivial, trivial, trivial⟩ ?_
  refine ab_wit (c := ((0 : Int32) = 0)) (by decide) ?_
  exact ab_wr 3 rfl ⟨trivial, trivial, (Or.inr rfl)⟩ h
theorem vc_J0_length_8abf5_s10_0 {call : Nat → List Value → ab_S → Option Value → ab_S → Prop} {L : Nat} {xs : Nat → Int32} {Q : Option Value → ab_S → Prop}  (mi : Nat → Nat → Int32) (ml : Nat → Nat → Int64)
    (h : ∃ (r3 : Int32) (mi1 : Nat → Nat → Int32) (ml2 : Nat → Nat → Int64), call 246 [.ref 1000010] (ab_G mi ml) (some (.int r3)) (ab_G mi1 ml2) ∧ (Q (some (.int ((Int32.ofNat 5) >>> (r3 &&& 31)))) (ab_G mi1 ml2))) :
    ab_W call (ab_ro L xs) 0 0 (ab_lk2 pl_J0_length_8abf5) Q (0, [some (.ref 1000010)], [], 0, 0, ab_G mi ml) := by
  obtain ⟨r3, mi1, ml2, hc, h⟩ := h
  refine ab_wc 5 (c := 246) (as := [.ref 1000010]) (pc := 9) (ll := [some (.ref 1000010)]) (st := [.int (Int32.ofNat 5)]) (c1 := 0) (s1 := 0) (g := (ab_G mi ml)) rfl ⟨trivial, trivial, trivial, trivial, trivial⟩ hc ?_
  exact ab_wr 2 rfl ⟨trivial, trivial⟩ h
theorem vc_J0_charAt_5068e_s10_0 {call : Nat → List Value → ab_S → Option Value → ab_S → Prop} {ro : ab_E} {Q : Option Value → ab_S → Prop} (x1 : Int32) (mi : Nat → Nat → Int32) (ml : Nat → Nat → Int64)
    (h : ∃ (r3 : Int32) (mi1 : Nat → Nat → Int32) (ml2 : Nat → Nat → Int64), call 247 [.ref 1000010] (ab_G mi ml) (some (.int r3)) (ab_G mi1 ml2) ∧ (((r3 = 0) → (False)) ∧ (¬ (r3 = 0) → (∃ (r6 : Int32) (mi4 : Nat → Nat → Int32) (ml5 : Nat → Nat → Int64), call 249 [.ref 1000110, .int x1] (ab_G mi1 ml2) (some (.int r6)) (ab_G mi4 ml5) ∧ (narrow .char (.int r6) = .int r6 ∧ (Q (some (.int r6)) (ab_G mi4 ml5))))))) :
    ab_W call ro 0 0 (ab_lk2 pl_J0_charAt_5068e) Q (0, [some (.ref 1000010), some (.int x1)], [], 0, 0, ab_G mi ml) := by
  obtain ⟨r3, mi1, ml2, hc, h⟩ := h
  refine ab_wc 2 (c := 247) (as := [.ref 1000010]) (pc := 4) (ll := [some (.ref 1000010), some (.int x1)]) (st := []) (c1 := 0) (s1 := 0) (g := (ab_G mi ml)) rfl ⟨trivial, trivial⟩ hc ?_
  refine ab_wk 1 (f' := (if r3 = 0 then 16 else 7, [some (.ref 1000010), some (.int x1)], [], 0, 0, (ab_G mi1 ml2))) rfl ⟨trivial, trivial⟩ ?_
  refine ab_wi (fun c => ?_) (fun c => ?_)
  · have h := h.1 c
    exact h.elim
  · have h := h.2 c
    obtain ⟨r6, mi4, ml5, hc, h⟩ := h
    refine ab_wc 4 (c := 249) (as := [.ref 1000110, .int x1]) (pc := 15) (ll := [some (.ref 1000010), some (.int x1)]) (st := []) (c1 := 0) (s1 := 0) (g := (ab_G mi1 ml2)) rfl ⟨trivial, trivial, trivial, trivial⟩ hc ?_
    obtain ⟨p0, h⟩ := h
    exact ab_wr 1 rfl p0 h
theorem vc_J1_charAt_3b067_s10_0 {call : Nat → List Value → ab_S → Option Value → ab_S → Prop} {L : Nat} {xs : Nat → Int32} {Q : Option Value → ab_S → Prop} (x1 : Int32) (mi : Nat → Nat → Int32) (ml : Nat → Nat → Int64)
    (h : ∃ (mi1 : Nat → Nat → Int32) (ml2 : Nat → Nat → Int64), call 248 [.int x1, .int (Int32.ofNat 5)] (ab_G mi ml) none (ab_G mi1 ml2) ∧ (vp_in x1 5 ∧ (narrow .char (.int ((((ab_sb 10 (x1).toNatClampNeg) &&& 255)).toUInt32 % 65536).toInt32) = .int ((((ab_sb 10 (x1).toNatClampNeg) &&& 255)).toUInt32 % 65536).toInt32 ∧ (Q (some (.int ((((ab_sb 10 (x1).toNatClampNeg) &&& 255)).toUInt32 % 65536).toInt32)) (ab_G mi1 ml2))))) :
    ab_W call (ab_ro L xs) 0 0 (ab_lk2 pl_J1_charAt_3b067) Q (0, [some (.ref 1000110), some (.int x1)], [], 0, 0, ab_G mi ml) := by
  obtain ⟨mi1, ml2, hc, h⟩ := h
  refine ab_wc 4 (c := 248) (as := [.int x1, .int (Int32.ofNat 5)]) (pc := 6) (ll := [some (.ref 1000110), some (.int x1)]) (st := []) (c1 := 0) (s1 := 0) (g := (ab_G mi ml)) rfl ⟨trivial, trivial, trivial, trivial⟩ hc ?_
  obtain ⟨p0, p1, h⟩ := h
  exact ab_wr 7 rfl ⟨trivial, trivial, p0, trivial, trivial, trivial, p1⟩ h
theorem vc_J0_coder_7d493_s11_0 {call : Nat → List Value → ab_S → Option Value → ab_S → Prop} {ro : ab_E} {Q : Option Value → ab_S → Prop}  (mi : Nat → Nat → Int32) (ml : Nat → Nat → Int64)
    (h : narrow .byte (.int 0) = .int 0 ∧ (Q (some (.int 0)) (ab_G mi ml))) :
    ab_W call ro 0 0 (ab_lk2 pl_J0_coder_7d493) Q (0, [some (.ref 1000011)], [], 0, 0, ab_G mi ml) := by
  refine ab_wk 2 (f' := (if (1 : Int32) = 0 then 13 else 6, [some (.ref 1000011)], [], 0, 0, (ab_G mi ml))) rfl ⟨trivial, trivial, trivial⟩ ?_
  refine ab_wif (c := ((1 : Int32) = 0)) (by decide) ?_
  obtain ⟨p0, h⟩ := h
  exact ab_wr 4 rfl ⟨trivial, trivial, trivial, p0⟩ h
theorem vc_J0_isLatin1_aae02_s11_0 {call : Nat → List Value → ab_S → Option Value → ab_S → Prop} {ro : ab_E} {Q : Option Value → ab_S → Prop}  (mi : Nat → Nat → Int32) (ml : Nat → Nat → Int64)
    (h : Q (some (.int 1)) (ab_G mi ml)) :
    ab_W call ro 0 0 (ab_lk2 pl_J0_isLatin1_aae02) Q (0, [some (.ref 1000011)], [], 0, 0, ab_G mi ml) := by
  refine ab_wk 2 (f' := (if (1 : Int32) = 0 then 17 else 6, [some (.ref 1000011)], [], 0, 0, (ab_G mi ml))) rfl ⟨trivial, trivial, trivial⟩ ?_
  refine ab_wif (c := ((1 : Int32) = 0)) (by decide) ?_
  refine ab_wk 3 (f' := (if (0 : Int32) = 0 then 13 else 17, [some (.ref 1000011)], [], 0, 0, (ab_G mi ml))) rfl ⟨trivial, trivial, trivial, trivial⟩ ?_
  refine ab_wit (c := ((0 : Int32) = 0)) (by decide) ?_
  exact ab_wr 3 rfl ⟨trivial, trivial, (Or.inr rfl)⟩ h
theorem vc_J0_length_8abf5_s11_0 {call : Nat → List Value → ab_S → Option Value → ab_S → Prop} {L : Nat} {xs : Nat → Int32} {Q : Option Value → ab_S → Prop}  (mi : Nat → Nat → Int32) (ml : Nat → Nat → Int64)
    (h : ∃ (r3 : Int32) (mi1 : Nat → Nat → Int32) (ml2 : Nat → Nat → Int64), call 246 [.ref 1000011] (ab_G mi ml) (some (.int r3)) (ab_G mi1 ml2) ∧ (Q (some (.int ((Int32.ofNat 4) >>> (r3 &&& 31)))) (ab_G mi1 ml2))) :
    ab_W call (ab_ro L xs) 0 0 (ab_lk2 pl_J0_length_8abf5) Q (0, [some (.ref 1000011)], [], 0, 0, ab_G mi ml) := by
  obtain ⟨r3, mi1, ml2, hc, h⟩ := h
  refine ab_wc 5 (c := 246) (as := [.ref 1000011]) (pc := 9) (ll := [some (.ref 1000011)]) (st := [.int (Int32.ofNat 4)]) (c1 := 0) (s1 := 0) (g := (ab_G mi ml)) rfl ⟨trivial, trivial, trivial, trivial, trivial⟩ hc ?_
  exact ab_wr 2 rfl ⟨trivial, trivial⟩ h
theorem vc_J0_charAt_5068e_s11_0 {call : Nat → List Value → ab_S → Option Value → ab_S → Prop} {ro : ab_E} {Q : Option Value → ab_S → Prop} (x1 : Int32) (mi : Nat → Nat → Int32) (ml : Nat → Nat → Int64)
    (h : ∃ (r3 : Int32) (mi1 : Nat → Nat → Int32) (ml2 : Nat → Nat → Int64), call 247 [.ref 1000011] (ab_G mi ml) (some (.int r3)) (ab_G mi1 ml2) ∧ (((r3 = 0) → (False)) ∧ (¬ (r3 = 0) → (∃ (r6 : Int32) (mi4 : Nat → Nat → Int32) (ml5 : Nat → Nat → Int64), call 249 [.ref 1000111, .int x1] (ab_G mi1 ml2) (some (.int r6)) (ab_G mi4 ml5) ∧ (narrow .char (.int r6) = .int r6 ∧ (Q (some (.int r6)) (ab_G mi4 ml5))))))) :
    ab_W call ro 0 0 (ab_lk2 pl_J0_charAt_5068e) Q (0, [some (.ref 1000011), some (.int x1)], [], 0, 0, ab_G mi ml) := by
  obtain ⟨r3, mi1, ml2, hc, h⟩ := h
  refine ab_wc 2 (c := 247) (as := [.ref 1000011]) (pc := 4) (ll := [some (.ref 1000011), some (.int x1)]) (st := []) (c1 := 0) (s1 := 0) (g := (ab_G mi ml)) rfl ⟨trivial, trivial⟩ hc ?_
  refine ab_wk 1 (f' := (if r3 = 0 then 16 else 7, [some (.ref 1000011), some (.int x1)], [], 0, 0, (ab_G mi1 ml2))) rfl ⟨trivial, trivial⟩ ?_
  refine ab_wi (fun c => ?_) (fun c => ?_)
  · have h := h.1 c
    exact h.elim
  · have h := h.2 c
    obtain ⟨r6, mi4, ml5, hc, h⟩ := h
    refine ab_wc 4 (c := 249) (as := [.ref 1000111, .int x1]) (pc := 15) (ll := [some (.ref 1000011), some (.int x1)]) (st := []) (c1 := 0) (s1 := 0) (g := (ab_G mi1 ml2)) rfl ⟨trivial, trivial, trivial, trivial⟩ hc ?_
    obtain ⟨p0, h⟩ := h
    exact ab_wr 1 rfl p0 h
theorem vc_J1_charAt_3b067_s11_0 {call : Nat → List Value → ab_S → Option Value → ab_S → Prop} {L : Nat} {xs : Nat → Int32} {Q : Option Value → ab_S → Prop} (x1 : Int32) (mi : Nat → Nat → Int32) (ml : Nat → Nat → Int64)
    (h : ∃ (mi1 : Nat → Nat → Int32) (ml2 : Nat → Nat → Int64), call 248 [.int x1, .int (Int32.ofNat 4)] (ab_G mi ml) none (ab_G mi1 ml2) ∧ (vp_in x1 4 ∧ (narrow .char (.int ((((ab_sb 11 (x1).toNatClampNeg) &&& 255)).toUInt32 % 65536).toInt32) = .int ((((ab_sb 11 (x1).toNatClampNeg) &&& 255)).toUInt32 % 65536).toInt32 ∧ (Q (some (.int ((((ab_sb 11 (x1).toNatClampNeg) &&& 255)).toUInt32 % 65536).toInt32)) (ab_G mi1 ml2))))) :
    ab_W call (ab_ro L xs) 0 0 (ab_lk2 pl_J1_charAt_3b067) Q (0, [some (.ref 1000111), some (.int x1)], [], 0, 0, ab_G mi ml) := by
  obtain ⟨mi1, ml2, hc, h⟩ := h
  refine ab_wc 4 (c := 248) (as := [.int x1, .int (Int32.ofNat 4)]) (pc := 6) (ll := [some (.ref 1000111), some (.int x1)]) (st := []) (c1 := 0) (s1 := 0) (g := (ab_G mi ml)) rfl ⟨trivial, trivial, trivial, trivial⟩ hc ?_
  obtain ⟨p0, p1, h⟩ := h
  exact ab_wr 7 rfl ⟨trivial, trivial, p0, trivial, trivial, trivial, p1⟩ h
theorem vc_J0_coder_7d493_s12_0 {call : Nat → List Value → ab_S → Option Value → ab_S → Prop} {ro : ab_E} {Q : Option Value → ab_S → Prop}  (mi : Nat → Nat → Int32) (ml : Nat → Nat → Int64)
    (h : narrow .byte (.int 0) = .int 0 ∧ (Q (some (.int 0)) (ab_G mi ml))) :
    ab_W call ro 0 0 (ab_lk2 pl_J0_coder_7d493) Q (0, [some (.ref 1000012)], [], 0, 0, ab_G mi ml) := by
  refine ab_wk 2 (f' := (if (1 : Int32) = 0 then 13 else 6, [some (.ref 1000012)], [], 0, 0, (ab_G mi ml))) rfl ⟨trivial, trivial, trivial⟩ ?_
  refine ab_wif (c := ((1 : Int32) = 0)) (by decide) ?_
  obtain ⟨p0, h⟩ := h
  exact ab_wr 4 rfl ⟨trivial, trivial, trivial, p0⟩ h
theorem vc_J0_isLatin1_aae02_s12_0 {call : Nat → List Value → ab_S → Option Value → ab_S → Prop} {ro : ab_E} {Q : Option Value → ab_S → Prop}  (mi : Nat → Nat → Int32) (ml : Nat → Nat → Int64)
    (h : Q (some (.int 1)) (ab_G mi ml)) :
    ab_W call ro 0 0 (ab_lk2 pl_J0_isLatin1_aae02) Q (0, [some (.ref 1000012)], [], 0, 0, ab_G mi ml) := by
  refine ab_wk 2 (f' := (if (1 : Int32) = 0 then 17 else 6, [some (.ref 1000012)], [], 0, 0, (ab_G mi ml))) rfl ⟨trivial, trivial, trivial⟩ ?_
  refine ab_wif (c := ((1 : Int32) = 0)) (by decide) ?_
  refine ab_wk 3 (f' := (if (0 : Int32) = 0 then 13 else 17, [some (.ref 1000012)], [], 0, 0, (ab_G mi ml))) rfl ⟨trivial, trivial, trivial, trivial⟩ ?_
  refine ab_wit (c := ((0 : Int32) = 0)) (by decide) ?_
  exact ab_wr 3 rfl ⟨trivial, trivial, (Or.inr rfl)⟩ h
theorem vc_J0_length_8abf5_s12_0 {call : Nat → List Value → ab_S → Option Value → ab_S → Prop} {L : Nat} {xs : Nat → Int32} {Q : Option Value → ab_S → Prop}  (mi : Nat → Nat → Int32) (ml : Nat → Nat → Int64)
    (h : ∃ (r3 : Int32) (mi1 : Nat → Nat → Int32) (ml2 : Nat → Nat → Int64), call 246 [.ref 1000012] (ab_G mi ml) (some (.int r3)) (ab_G mi1 ml2) ∧ (Q (some (.int ((Int32.ofNat 5) >>> (r3 &&& 31)))) (ab_G mi1 ml2))) :
    ab_W call (ab_ro L xs) 0 0 (ab_lk2 pl_J0_length_8abf5) Q (0, [some (.ref 1000012)], [], 0, 0, ab_G mi ml) := by
  obtain ⟨r3, mi1, ml2, hc, h⟩ := h
  refine ab_wc 5 (c := 246) (as := [.ref 1000012]) (pc := 9) (ll := [some (.ref 1000012)]) (st := [.int (Int32.ofNat 5)]) (c1 := 0) (s1 := 0) (g := (ab_G mi ml)) rfl ⟨trivial, trivial, trivial, trivial, trivial⟩ hc ?_
  exact ab_wr 2 rfl ⟨trivial, trivial⟩ h
theorem vc_J0_charAt_5068e_s12_0 {call : Nat → List Value → ab_S → Option Value → ab_S → Prop} {ro : ab_E} {Q : Option Value → ab_S → Prop} (x1 : Int32) (mi : Nat → Nat → Int32) (ml : Nat → Nat → Int64)
    (h : ∃ (r3 : Int32) (mi1 : Nat → Nat → Int32) (ml2 : Nat → Nat → Int64), call 247 [.ref 1000012] (ab_G mi ml) (some (.int r3)) (ab_G mi1 ml2) ∧ (((r3 = 0) → (False)) ∧ (¬ (r3 = 0) → (∃ (r6 : Int32) (mi4 : Nat → Nat → Int32) (ml5 : Nat → Nat → Int64), call 249 [.ref 1000112, .int x1] (ab_G mi1 ml2) (some (.int r6)) (ab_G mi4 ml5) ∧ (narrow .char (.int r6) = .int r6 ∧ (Q (some (.int r6)) (ab_G mi4 ml5))))))) :
    ab_W call ro 0 0 (ab_lk2 pl_J0_charAt_5068e) Q (0, [some (.ref 1000012), some (.int x1)], [], 0, 0, ab_G mi ml) := by
  obtain ⟨r3, mi1, ml2, hc, h⟩ := h
  refine ab_wc 2 (c := 247) (as := [.ref 1000012]) (pc := 4) (ll := [some (.ref 1000012), some (.int x1)]) (st := []) (c1 := 0) (s1 := 0) (g := (ab_G mi ml)) rfl ⟨trivial, trivial⟩ hc ?_
  refine ab_wk 1 (f' := (if r3 = 0 then 16 else 7, [some (.ref 1000012), some (.int x1)], [], 0, 0, (ab_G mi1 ml2))) rfl ⟨trivial, trivial⟩ ?_
  refine ab_wi (fun c => ?_) (fun c => ?_)
  · have h := h.1 c
    exact h.elim
  · have h := h.2 c
    obtain ⟨r6, mi4, ml5, hc, h⟩ := h
    refine ab_wc 4 (c := 249) (as := [.ref 1000112, .int x1]) (pc := 15) (ll := [some (.ref 1000012), some (.int x1)]) (st := []) (c1 := 0) (s1 := 0) (g := (ab_G mi1 ml2)) rfl ⟨trivial, trivial, trivial, trivial⟩ hc ?_
    obtain ⟨p0, h⟩ := h
    exact ab_wr 1 rfl p0 h
theorem vc_J1_charAt_3b067_s12_0 {call : Nat → List Value → ab_S → Option Value → ab_S → Prop} {L : Nat} {xs : Nat → Int32} {Q : Option Value → ab_S → Prop} (x1 : Int32) (mi : Nat → Nat → Int32) (ml : Nat → Nat → Int64)
    (h : ∃ (mi1 : Nat → Nat → Int32) (ml2 : Nat → Nat → Int64), call 248 [.int x1, .int (Int32.ofNat 5)] (ab_G mi ml) none (ab_G mi1 ml2) ∧ (vp_in x1 5 ∧ (narrow .char (.int ((((ab_sb 12 (x1).toNatClampNeg) &&& 255)).toUInt32 % 65536).toInt32) = .int ((((ab_sb 12 (x1).toNatClampNeg) &&& 255)).toUInt32 % 65536).toInt32 ∧ (Q (some (.int ((((ab_sb 12 (x1).toNatClampNeg) &&& 255)).toUInt32 % 65536).toInt32)) (ab_G mi1 ml2))))) :
    ab_W call (ab_ro L xs) 0 0 (ab_lk2 pl_J1_charAt_3b067) Q (0, [some (.ref 1000112), some (.int x1)], [], 0, 0, ab_G mi ml) := by
  obtain ⟨mi1, ml2, hc, h⟩ := h
  refine ab_wc 4 (c := 248) (as := [.int x1, .int (Int32.ofNat 5)]) (pc := 6) (ll := [some (.ref 1000112), some (.int x1)]) (st := []) (c1 := 0) (s1 := 0) (g := (ab_G mi ml)) rfl ⟨trivial, trivial, trivial, trivial⟩ hc ?_
  obtain ⟨p0, p1, h⟩ := h
  exact ab_wr 7 rfl ⟨trivial, trivial, p0, trivial, trivial, trivial, p1⟩ h
theorem vc_J0_coder_7d493_s13_0 {call : Nat → List Value → ab_S → Option Value → ab_S → Prop} {ro : ab_E} {Q : Option Value → ab_S → Prop}  (mi : Nat → Nat → Int32) (ml : Nat → Nat → Int64)
    (h : narrow .byte (.int 0) = .int 0 ∧ (Q (some (.int 0)) (ab_G mi ml))) :
    ab_W call ro 0 0 (ab_lk2 pl_J0_coder_7d493) Q (0, [some (.ref 1000013)], [], 0, 0, ab_G mi ml) := by
  refine ab_wk 2 (f' := (if (1 : Int32) = 0 then 13 else 6, [some (.ref 1000013)], [], 0, 0, (ab_G mi ml))) rfl ⟨trivial, trivial, trivial⟩ ?_
  refine ab_wif (c := ((1 : Int32) = 0)) (by decide) ?_
  obtain ⟨p0, h⟩ := h
  exact ab_wr 4 rfl ⟨trivial, trivial, trivial, p0⟩ h
theorem vc_J0_isLatin1_aae02_s13_0 {call : Nat → List Value → ab_S → Option Value → ab_S → Prop} {ro : ab_E} {Q : Option Value → ab_S → Prop}  (mi : Nat → Nat → Int32) (ml : Nat → Nat → Int64)
    (h : Q (some (.int 1)) (ab_G mi ml)) :
    ab_W call ro 0 0 (ab_lk2 pl_J0_isLatin1_aae02) Q (0, [some (.ref 1000013)], [], 0, 0, ab_G mi ml) := by
  refine ab_wk 2 (f' := (if (1 : Int32) = 0 then 17 else 6, [some (.ref 1000013)], [], 0, 0, (ab_G mi ml))) rfl ⟨trivial, trivial, trivial⟩ ?_
  refine ab_wif (c := ((1 : Int32) = 0)) (by decide) ?_
  refine ab_wk 3 (f' := (if (0 : Int32) = 0 then 13 else 17, [some (.ref 1000013)], [], 0, 0, (ab_G mi ml))) rfl ⟨trivial, trivial, trivial, trivial⟩ ?_
  refine ab_wit (c := ((0 : Int32) = 0)) (by decide) ?_
  exact ab_wr 3 rfl ⟨trivial, trivial, (Or.inr rfl)⟩ h
theorem vc_J0_length_8abf5_s13_0 {call : Nat → List Value → ab_S → Option Value → ab_S → Prop} {L : Nat} {xs : Nat → Int32} {Q : Option Value → ab_S → Prop}  (mi : Nat → Nat → Int32) (ml : Nat → Nat → Int64)
    (h : ∃ (r3 : Int32) (mi1 : Nat → Nat → Int32) (ml2 : Nat → Nat → Int64), call 246 [.ref 1000013] (ab_G mi ml) (some (.int r3)) (ab_G mi1 ml2) ∧ (Q (some (.int ((Int32.ofNat 3) >>> (r3 &&& 31)))) (ab_G mi1 ml2))) :
    ab_W call (ab_ro L xs) 0 0 (ab_lk2 pl_J0_length_8abf5) Q (0, [some (.ref 1000013)], [], 0, 0, ab_G mi ml) := by
  obtain ⟨r3, mi1, ml2, hc, h⟩ := h
  refine ab_wc 5 (c := 246) (as := [.ref 1000013]) (pc := 9) (ll := [some (.ref 1000013)]) (st := [.int (Int32.ofNat 3)]) (c1 := 0) (s1 := 0) (g := (ab_G mi ml)) rfl ⟨trivial, trivial, trivial, trivial, trivial⟩ hc ?_
  exact ab_wr 2 rfl ⟨trivial, trivial⟩ h
theorem vc_J0_charAt_5068e_s13_0 {call : Nat → List Value → ab_S → Option Value → ab_S → Prop} {ro : ab_E} {Q : Option Value → ab_S → Prop} (x1 : Int32) (mi : Nat → Nat → Int32) (ml : Nat → Nat → Int64)
    (h : ∃ (r3 : Int32) (mi1 : Nat → Nat → Int32) (ml2 : Nat → Nat → Int64), call 247 [.ref 1000013] (ab_G mi ml) (some (.int r3)) (ab_G mi1 ml2) ∧ (((r3 = 0) → (False)) ∧ (¬ (r3 = 0) → (∃ (r6 : Int32) (mi4 : Nat → Nat → Int32) (ml5 : Nat → Nat → Int64), call 249 [.ref 1000113, .int x1] (ab_G mi1 ml2) (some (.int r6)) (ab_G mi4 ml5) ∧ (narrow .char (.int r6) = .int r6 ∧ (Q (some (.int r6)) (ab_G mi4 ml5))))))) :
    ab_W call ro 0 0 (ab_lk2 pl_J0_charAt_5068e) Q (0, [some (.ref 1000013), some (.int x1)], [], 0, 0, ab_G mi ml) := by
  obtain ⟨r3, mi1, ml2, hc, h⟩ := h
  refine ab_wc 2 (c := 247) (as := [.ref 1000013]) (pc := 4) (ll := [some (.ref 1000013), some (.int x1)]) (st := []) (c1 := 0) (s1 := 0) (g := (ab_G mi ml)) rfl ⟨trivial, trivial⟩ hc ?_
  refine ab_wk 1 (f' := (if r3 = 0 then 16 else 7, [some (.ref 1000013), some (.int x1)], [], 0, 0, (ab_G mi1 ml2))) rfl ⟨trivial, trivial⟩ ?_
  refine ab_wi (fun c => ?_) (fun c => ?_)
  · have h := h.1 c
    exact h.elim
  · have h := h.2 c
    obtain ⟨r6, mi4, ml5, hc, h⟩ := h
    refine ab_wc 4 (c := 249) (as := [.ref 1000113, .int x1]) (pc := 15) (ll := [some (.ref 1000013), some (.int x1)]) (st := []) (c1 := 0) (s1 := 0) (g := (ab_G mi1 ml2)) rfl ⟨trivial, trivial, trivial, trivial⟩ hc ?_
    obtain ⟨p0, h⟩ := h
    exact ab_wr 1 rfl p0 h
theorem vc_J1_charAt_3b067_s13_0 {call : Nat → List Value → ab_S → Option Value → ab_S → Prop} {L : Nat} {xs : Nat → Int32} {Q : Option Value → ab_S → Prop} (x1 : Int32) (mi : Nat → Nat → Int32) (ml : Nat → Nat → Int64)
    (h : ∃ (mi1 : Nat → Nat → Int32) (ml2 : Nat → Nat → Int64), call 248 [.int x1, .int (Int32.ofNat 3)] (ab_G mi ml) none (ab_G mi1 ml2) ∧ (vp_in x1 3 ∧ (narrow .char (.int ((((ab_sb 13 (x1).toNatClampNeg) &&& 255)).toUInt32 % 65536).toInt32) = .int ((((ab_sb 13 (x1).toNatClampNeg) &&& 255)).toUInt32 % 65536).toInt32 ∧ (Q (some (.int ((((ab_sb 13 (x1).toNatClampNeg) &&& 255)).toUInt32 % 65536).toInt32)) (ab_G mi1 ml2))))) :
    ab_W call (ab_ro L xs) 0 0 (ab_lk2 pl_J1_charAt_3b067) Q (0, [some (.ref 1000113), some (.int x1)], [], 0, 0, ab_G mi ml) := by
  obtain ⟨mi1, ml2, hc, h⟩ := h
  refine ab_wc 4 (c := 248) (as := [.int x1, .int (Int32.ofNat 3)]) (pc := 6) (ll := [some (.ref 1000113), some (.int x1)]) (st := []) (c1 := 0) (s1 := 0) (g := (ab_G mi ml)) rfl ⟨trivial, trivial, trivial, trivial⟩ hc ?_
  obtain ⟨p0, p1, h⟩ := h
  exact ab_wr 7 rfl ⟨trivial, trivial, p0, trivial, trivial, trivial, p1⟩ h
theorem vc_J0_coder_7d493_s14_0 {call : Nat → List Value → ab_S → Option Value → ab_S → Prop} {ro : ab_E} {Q : Option Value → ab_S → Prop}  (mi : Nat → Nat → Int32) (ml : Nat → Nat → Int64)
    (h : narrow .byte (.int 0) = .int 0 ∧ (Q (some (.int 0)) (ab_G mi ml))) :
    ab_W call ro 0 0 (ab_lk2 pl_J0_coder_7d493) Q (0, [some (.ref 1000014)], [], 0, 0, ab_G mi ml) := by
  refine ab_wk 2 (f' := (if (1 : Int32) = 0 then 13 else 6, [some (.ref 1000014)], [], 0, 0, (ab_G mi ml))) rfl ⟨trivial, trivial, trivial⟩ ?_
  refine ab_wif (c := ((1 : Int32) = 0)) (by decide) ?_
  obtain ⟨p0, h⟩ := h
  exact ab_wr 4 rfl ⟨trivial, trivial, trivial, p0⟩ h
theorem vc_J0_isLatin1_aae02_s14_0 {call : Nat → List Value → ab_S → Option Value → ab_S → Prop} {ro : ab_E} {Q : Option Value → ab_S → Prop}  (mi : Nat → Nat → Int32) (ml : Nat → Nat → Int64)
    (h : Q (some (.int 1)) (ab_G mi ml)) :
    ab_W call ro 0 0 (ab_lk2 pl_J0_isLatin1_aae02) Q (0, [some (.ref 1000014)], [], 0, 0, ab_G mi ml) := by
  refine ab_wk 2 (f' := (if (1 : Int32) = 0 then 17 else 6, [some (.ref 1000014)], [], 0, 0, (ab_G mi ml))) rfl ⟨trivial, trivial, trivial⟩ ?_
  refine ab_wif (c := ((1 : Int32) = 0)) (by decide) ?_
  refine ab_wk 3 (f' := (if (0 : Int32) = 0 then 13 else 17, [some (.ref 1000014)], [], 0, 0, (ab_G mi ml))) rfl ⟨trivial, trivial, trivial, trivial⟩ ?_
  refine ab_wit (c := ((0 : Int32) = 0)) (by decide) ?_
  exact ab_wr 3 rfl ⟨trivial, trivial, (Or.inr rfl)⟩ h
theorem vc_J0_length_8abf5_s14_0 {call : Nat → List Value → ab_S → Option Value → ab_S → Prop} {L : Nat} {xs : Nat → Int32} {Q : Option Value → ab_S → Prop}  (mi : Nat → Nat → Int32) (ml : Nat → Nat → Int64)
    (h : ∃ (r3 : Int32) (mi1 : Nat → Nat → Int32) (ml2 : Nat → Nat → Int64), call 246 [.ref 1000014] (ab_G mi ml) (some (.int r3)) (ab_G mi1 ml2) ∧ (Q (some (.int ((Int32.ofNat 2) >>> (r3 &&& 31)))) (ab_G mi1 ml2))) :
    ab_W call (ab_ro L xs) 0 0 (ab_lk2 pl_J0_length_8abf5) Q (0, [some (.ref 1000014)], [], 0, 0, ab_G mi ml) := by
  obtain ⟨r3, mi1, ml2, hc, h⟩ := h
  refine ab_wc 5 (c := 246) (as := [.ref 1000014]) (pc := 9) (ll := [some (.ref 1000014)]) (st := [.int (Int32.ofNat 2)]) (c1 := 0) (s1 := 0) (g := (ab_G mi ml)) rfl ⟨trivial, trivial, trivial, trivial, trivial⟩ hc ?_
  exact ab_wr 2 rfl ⟨trivial, trivial⟩ h
theorem vc_J0_charAt_5068e_s14_0 {call : Nat → List Value → ab_S → Option Value → ab_S → Prop} {ro : ab_E} {Q : Option Value → ab_S → Prop} (x1 : Int32) (mi : Nat → Nat → Int32) (ml : Nat → Nat → Int64)
    (h : ∃ (r3 : Int32) (mi1 : Nat → Nat → Int32) (ml2 : Nat → Nat → Int64), call 247 [.ref 1000014] (ab_G mi ml) (some (.int r3)) (ab_G mi1 ml2) ∧ (((r3 = 0) → (False)) ∧ (¬ (r3 = 0) → (∃ (r6 : Int32) (mi4 : Nat → Nat → Int32) (ml5 : Nat → Nat → Int64), call 249 [.ref 1000114, .int x1] (ab_G mi1 ml2) (some (.int r6)) (ab_G mi4 ml5) ∧ (narrow .char (.int r6) = .int r6 ∧ (Q (some (.int r6)) (ab_G mi4 ml5))))))) :
    ab_W call ro 0 0 (ab_lk2 pl_J0_charAt_5068e) Q (0, [some (.ref 1000014), some (.int x1)], [], 0, 0, ab_G mi ml) := by
  obtain ⟨r3, mi1, ml2, hc, h⟩ := h
  refine ab_wc 2 (c := 247) (as := [.ref 1000014]) (pc := 4) (ll := [some (.ref 1000014), some (.int x1)]) (st := []) (c1 := 0) (s1 := 0) (g := (ab_G mi ml)) rfl ⟨trivial, trivial⟩ hc ?_
  refine ab_wk 1 (f' := (if r3 = 0 then 16 else 7, [some (.ref 1000014), some (.int x1)], [], 0, 0, (ab_G mi1 ml2))) rfl ⟨trivial, trivial⟩ ?_
  refine ab_wi (fun c => ?_) (fun c => ?_)
  · have h := h.1 c
    exact h.elim
  · have h := h.2 c
    obtain ⟨r6, mi4, ml5, hc, h⟩ := h
    refine ab_wc 4 (c := 249) (as := [.ref 1000114, .int x1]) (pc := 15) (ll := [some (.ref 1000014), some (.int x1)]) (st := []) (c1 := 0) (s1 := 0) (g := (ab_G mi1 ml2)) rfl ⟨trivial, trivial, trivial, trivial⟩ hc ?_
    obtain ⟨p0, h⟩ := h
    exact ab_wr 1 rfl p0 h
theorem vc_J1_charAt_3b067_s14_0 {call : Nat → List Value → ab_S → Option Value → ab_S → Prop} {L : Nat} {xs : Nat → Int32} {Q : Option Value → ab_S → Prop} (x1 : Int32) (mi : Nat → Nat → Int32) (ml : Nat → Nat → Int64)
    (h : ∃ (mi1 : Nat → Nat → Int32) (ml2 : Nat → Nat → Int64), call 248 [.int x1, .int (Int32.ofNat 2)] (ab_G mi ml) none (ab_G mi1 ml2) ∧ (vp_in x1 2 ∧ (narrow .char (.int ((((ab_sb 14 (x1).toNatClampNeg) &&& 255)).toUInt32 % 65536).toInt32) = .int ((((ab_sb 14 (x1).toNatClampNeg) &&& 255)).toUInt32 % 65536).toInt32 ∧ (Q (some (.int ((((ab_sb 14 (x1).toNatClampNeg) &&& 255)).toUInt32 % 65536).toInt32)) (ab_G mi1 ml2))))) :
    ab_W call (ab_ro L xs) 0 0 (ab_lk2 pl_J1_charAt_3b067) Q (0, [some (.ref 1000114), some (.int x1)], [], 0, 0, ab_G mi ml) := by
  obtain ⟨mi1, ml2, hc, h⟩ := h
  refine ab_wc 4 (c := 248) (as := [.int x1, .int (Int32.ofNat 2)]) (pc := 6) (ll := [some (.ref 1000114), some (.int x1)]) (st := []) (c1 := 0) (s1 := 0) (g := (ab_G mi ml)) rfl ⟨trivial, trivial, trivial, trivial⟩ hc ?_
  obtain ⟨p0, p1, h⟩ := h
  exact ab_wr 7 rfl ⟨trivial, trivial, p0, trivial, trivial, trivial, p1⟩ h
theorem vc_J0_checkIndex_df160_0 {call : Nat → List Value → ab_S → Option Value → ab_S → Prop} {ro : ab_E} {Q : Option Value → ab_S → Prop} (x0 : Int32) (x1 : Int32) (mi : Nat → Nat → Int32) (ml : Nat → Nat → Int64)
    (h : ∃ (r3 : Int32) (mi1 : Nat → Nat → Int32) (ml2 : Nat → Nat → Int64), call 74 [.int x0, .int x1, .retAddr 0] (ab_G mi ml) (some (.int r3)) (ab_G mi1 ml2) ∧ (Q none (ab_G mi1 ml2))) :
    ab_W call ro 0 0 (ab_lk2 pl_J0_checkIndex_df160) Q (0, [some (.int x0), some (.int x1)], [], 0, 0, ab_G mi ml) := by
  obtain ⟨r3, mi1, ml2, hc, h⟩ := h
  refine ab_wc 4 (c := 74) (as := [.int x0, .int x1, .retAddr 0]) (pc := 8) (ll := [some (.int x0), some (.int x1)]) (st := []) (c1 := 0) (s1 := 0) (g := (ab_G mi ml)) rfl ⟨trivial, trivial, trivial, trivial⟩ hc ?_
  exact ab_wr 2 rfl ⟨trivial, trivial⟩ h
theorem vc_J6_bitCount_0f7a4_0 {call : Nat → List Value → ab_S → Option Value → ab_S → Prop} {ro : ab_E} {Q : Option Value → ab_S → Prop} (x0 : Int32) (mi : Nat → Nat → Int32) (ml : Nat → Nat → Int64)
    (h : Q (some (.int ((((((((x0 - (((x0).toUInt32 >>> ((1).toUInt32 &&& Int32.toUInt32 31)).toInt32 &&& 1431655765)) &&& 858993459) + ((((x0 - (((x0).toUInt32 >>> ((1).toUInt32 &&& Int32.toUInt32 31)).toInt32 &&& 1431655765))).toUInt32 >>> ((2).toUInt32 &&& Int32.toUInt32 31)).toInt32 &&& 858993459)) + (((((x0 - (((x0).toUInt32 >>> ((1).toUInt32 &&& Int32.toUInt32 31)).toInt32 &&& 1431655765)) &&& 858993459) + ((((x0 - (((x0).toUInt32 >>> ((1).toUInt32 &&& Int32.toUInt32 31)).toInt32 &&& 1431655765))).toUInt32 >>> ((2).toUInt32 &&& Int32.toUInt32 31)).toInt32 &&& 858993459))).toUInt32 >>> ((4).toUInt32 &&& Int32.toUInt32 31)).toInt32) &&& 252645135) + (((((((x0 - (((x0).toUInt32 >>> ((1).toUInt32 &&& Int32.toUInt32 31)).toInt32 &&& 1431655765)) &&& 858993459) + ((((x0 - (((x0).toUInt32 >>> ((1).toUInt32 &&& Int32.toUInt32 31)).toInt32 &&& 1431655765))).toUInt32 >>> ((2).toUInt32 &&& Int32.toUInt32 31)).toInt32 &&& 858993459)) + (((((x0 - (((x0).toUInt32 >>> ((1).toUInt32 &&& Int32.toUInt32 31)).toInt32 &&& 1431655765)) &&& 858993459) + ((((x0 - (((x0).toUInt32 >>> ((1).toUInt32 &&& Int32.toUInt32 31)).toInt32 &&& 1431655765))).toUInt32 >>> ((2).toUInt32 &&& Int32.toUInt32 31)).toInt32 &&& 858993459))).toUInt32 >>> ((4).toUInt32 &&& Int32.toUInt32 31)).toInt32) &&& 252645135)).toUInt32 >>> ((8).toUInt32 &&& Int32.toUInt32 31)).toInt32) + ((((((((x0 - (((x0).toUInt32 >>> ((1).toUInt32 &&& Int32.toUInt32 31)).toInt32 &&& 1431655765)) &&& 858993459) + ((((x0 - (((x0).toUInt32 >>> ((1).toUInt32 &&& Int32.toUInt32 31)).toInt32 &&& 1431655765))).toUInt32 >>> ((2).toUInt32 &&& Int32.toUInt32 31)).toInt32 &&& 858993459)) + (((((x0 - (((x0).toUInt32 >>> ((1).toUInt32 &&& Int32.toUInt32 31)).toInt32 &&& 1431655765)) &&& 858993459) + ((((x0 - (((x0).toUInt32 >>> ((1).toUInt32 &&& Int32.toUInt32 31)).toInt32 &&& 1431655765))).toUInt32 >>> ((2).toUInt32 &&& Int32.toUInt32 31)).toInt32 &&& 858993459))).toUInt32 >>> ((4).toUInt32 &&& Int32.toUInt32 31)).toInt32) &&& 252645135) + (((((((x0 - (((x0).toUInt32 >>> ((1).toUInt32 &&& Int32.toUInt32 31)).toInt32 &&& 1431655765)) &&& 858993459) + ((((x0 - (((x0).toUInt32 >>> ((1).toUInt32 &&& Int32.toUInt32 31)).toInt32 &&& 1431655765))).toUInt32 >>> ((2).toUInt32 &&& Int32.toUInt32 31)).toInt32 &&& 858993459)) + (((((x0 - (((x0).toUInt32 >>> ((1).toUInt32 &&& Int32.toUInt32 31)).toInt32 &&& 1431655765)) &&& 858993459) + ((((x0 - (((x0).toUInt32 >>> ((1).toUInt32 &&& Int32.toUInt32 31)).toInt32 &&& 1431655765))).toUInt32 >>> ((2).toUInt32 &&& Int32.toUInt32 31)).toInt32 &&& 858993459))).toUInt32 >>> ((4).toUInt32 &&& Int32.toUInt32 31)).toInt32) &&& 252645135)).toUInt32 >>> ((8).toUInt32 &&& Int32.toUInt32 31)).toInt32)).toUInt32 >>> ((16).toUInt32 &&& Int32.toUInt32 31)).toInt32) &&& 63))) (ab_G mi ml)) :
    ab_W call ro 0 0 (ab_lk2 pl_J6_bitCount_0f7a4) Q (0, [some (.int x0)], [], 0, 0, ab_G mi ml) := by
  exact ab_wr 42 rfl ⟨trivial, trivial, trivial, trivial, trivial, trivial, trivial, trivial, trivial, trivial, trivial, trivial, trivial, trivial, trivial, trivial, trivial, trivial, trivial, trivial, trivial, trivial, trivial, trivial, trivial, trivial, trivial, trivial, trivial, trivial, trivial, trivial, trivial, trivial, trivial, trivial, trivial, trivial, trivial, trivial, trivial, trivial⟩ h
theorem vc_J13_bitCount_95d88_0 {call : Nat → List Value → ab_S → Option Value → ab_S → Prop} {ro : ab_E} {Q : Option Value → ab_S → Prop} (x0 : Int64) (mi : Nat → Nat → Int32) (ml : Nat → Nat → Int64)
    (h : Q (some (.int ((((((((((x0 - (((x0).toUInt64 >>> (((1 : Int32)).toInt64.toUInt64 &&& Int64.toUInt64 63)).toInt64 &&& 6148914691236517205)) &&& 3689348814741910323) + ((((x0 - (((x0).toUInt64 >>> (((1 : Int32)).toInt64.toUInt64 &&& Int64.toUInt64 63)).toInt64 &&& 6148914691236517205))).toUInt64 >>> (((2 : Int32)).toInt64.toUInt64 &&& Int64.toUInt64 63)).toInt64 &&& 3689348814741910323)) + (((((x0 - (((x0).toUInt64 >>> (((1 : Int32)).toInt64.toUInt64 &&& Int64.toUInt64 63)).toInt64 &&& 6148914691236517205)) &&& 3689348814741910323) + ((((x0 - (((x0).toUInt64 >>> (((1 : Int32)).toInt64.toUInt64 &&& Int64.toUInt64 63)).toInt64 &&& 6148914691236517205))).toUInt64 >>> (((2 : Int32)).toInt64.toUInt64 &&& Int64.toUInt64 63)).toInt64 &&& 3689348814741910323))).toUInt64 >>> (((4 : Int32)).toInt64.toUInt64 &&& Int64.toUInt64 63)).toInt64) &&& 1085102592571150095) + (((((((x0 - (((x0).toUInt64 >>> (((1 : Int32)).toInt64.toUInt64 &&& Int64.toUInt64 63)).toInt64 &&& 6148914691236517205)) &&& 3689348814741910323) + ((((x0 - (((x0).toUInt64 >>> (((1 : Int32)).toInt64.toUInt64 &&& Int64.toUInt64 63)).toInt64 &&& 6148914691236517205))).toUInt64 >>> (((2 : Int32)).toInt64.toUInt64 &&& Int64.toUInt64 63)).toInt64 &&& 3689348814741910323)) + (((((x0 - (((x0).toUInt64 >>> (((1 : Int32)).toInt64.toUInt64 &&& Int64.toUInt64 63)).toInt64 &&& 6148914691236517205)) &&& 3689348814741910323) + ((((x0 - (((x0).toUInt64 >>> (((1 : Int32)).toInt64.toUInt64 &&& Int64.toUInt64 63)).toInt64 &&& 6148914691236517205))).toUInt64 >>> (((2 : Int32)).toInt64.toUInt64 &&& Int64.toUInt64 63)).toInt64 &&& 3689348814741910323))).toUInt64 >>> (((4 : Int32)).toInt64.toUInt64 &&& Int64.toUInt64 63)).toInt64) &&& 1085102592571150095)).toUInt64 >>> (((8 : Int32)).toInt64.toUInt64 &&& Int64.toUInt64 63)).toInt64) + ((((((((x0 - (((x0).toUInt64 >>> (((1 : Int32)).toInt64.toUInt64 &&& Int64.toUInt64 63)).toInt64 &&& 6148914691236517205)) &&& 3689348814741910323) + ((((x0 - (((x0).toUInt64 >>> (((1 : Int32)).toInt64.toUInt64 &&& Int64.toUInt64 63)).toInt64 &&& 6148914691236517205))).toUInt64 >>> (((2 : Int32)).toInt64.toUInt64 &&& Int64.toUInt64 63)).toInt64 &&& 3689348814741910323)) + (((((x0 - (((x0).toUInt64 >>> (((1 : Int32)).toInt64.toUInt64 &&& Int64.toUInt64 63)).toInt64 &&& 6148914691236517205)) &&& 3689348814741910323) + ((((x0 - (((x0).toUInt64 >>> (((1 : Int32)).toInt64.toUInt64 &&& Int64.toUInt64 63)).toInt64 &&& 6148914691236517205))).toUInt64 >>> (((2 : Int32)).toInt64.toUInt64 &&& Int64.toUInt64 63)).toInt64 &&& 3689348814741910323))).toUInt64 >>> (((4 : Int32)).toInt64.toUInt64 &&& Int64.toUInt64 63)).toInt64) &&& 1085102592571150095) + (((((((x0 - (((x0).toUInt64 >>> (((1 : Int32)).toInt64.toUInt64 &&& Int64.toUInt64 63)).toInt64 &&& 6148914691236517205)) &&& 3689348814741910323) + ((((x0 - (((x0).toUInt64 >>> (((1 : Int32)).toInt64.toUInt64 &&& Int64.toUInt64 63)).toInt64 &&& 6148914691236517205))).toUInt64 >>> (((2 : Int32)).toInt64.toUInt64 &&& Int64.toUInt64 63)).toInt64 &&& 3689348814741910323)) + (((((x0 - (((x0).toUInt64 >>> (((1 : Int32)).toInt64.toUInt64 &&& Int64.toUInt64 63)).toInt64 &&& 6148914691236517205)) &&& 3689348814741910323) + ((((x0 - (((x0).toUInt64 >>> (((1 : Int32)).toInt64.toUInt64 &&& Int64.toUInt64 63)).toInt64 &&& 6148914691236517205))).toUInt64 >>> (((2 : Int32)).toInt64.toUInt64 &&& Int64.toUInt64 63)).toInt64 &&& 3689348814741910323))).toUInt64 >>> (((4 : Int32)).toInt64.toUInt64 &&& Int64.toUInt64 63)).toInt64) &&& 1085102592571150095)).toUInt64 >>> (((8 : Int32)).toInt64.toUInt64 &&& Int64.toUInt64 63)).toInt64)).toUInt64 >>> (((16 : Int32)).toInt64.toUInt64 &&& Int64.toUInt64 63)).toInt64) + (((((((((x0 - (((x0).toUInt64 >>> (((1 : Int32)).toInt64.toUInt64 &&& Int64.toUInt64 63)).toInt64 &&& 6148914691236517205)) &&& 3689348814741910323) + ((((x0 - (((x0).toUInt64 >>> (((1 : Int32)).toInt64.toUInt64 &&& Int64.toUInt64 63)).toInt64 &&& 6148914691236517205))).toUInt64 >>> (((2 : Int32)).toInt64.toUInt64 &&& Int64.toUInt64 63)).toInt64 &&& 3689348814741910323)) + (((((x0 - (((x0).toUInt64 >>> (((1 : Int32)).toInt64.toUInt64 &&& Int64.toUInt64 63)).toInt64 &&& 6148914691236517205)) &&& 3689348814741910323) + ((((x0 - (((x0).toUInt64 >>> (((1 : Int32)).toInt64.toUInt64 &&& Int64.toUInt64 63)).toInt64 &&& 6148914691236517205))).toUInt64 >>> (((2 : Int32)).toInt64.toUInt64 &&& Int64.toUInt64 63)).toInt64 &&& 3689348814741910323))).toUInt64 >>> (((4 : Int32)).toInt64.toUInt64 &&& Int64.toUInt64 63)).toInt64) &&& 1085102592571150095) + (((((((x0 - (((x0).toUInt64 >>> (((1 : Int32)).toInt64.toUInt64 &&& Int64.toUInt64 63)).toInt64 &&& 6148914691236517205)) &&& 3689348814741910323) + ((((x0 - (((x0).toUInt64 >>> (((1 : Int32)).toInt64.toUInt64 &&& Int64.toUInt64 63)).toInt64 &&& 6148914691236517205))).toUInt64 >>> (((2 : Int32)).toInt64.toUInt64 &&& Int64.toUInt64 63)).toInt64 &&& 3689348814741910323)) + (((((x0 - (((x0).toUInt64 >>> (((1 : Int32)).toInt64.toUInt64 &&& Int64.toUInt64 63)).toInt64 &&& 6148914691236517205)) &&& 3689348814741910323) + ((((x0 - (((x0).toUInt64 >>> (((1 : Int32)).toInt64.toUInt64 &&& Int64.toUInt64 63)).toInt64 &&& 6148914691236517205))).toUInt64 >>> (((2 : Int32)).toInt64.toUInt64 &&& Int64.toUInt64 63)).toInt64 &&& 3689348814741910323))).toUInt64 >>> (((4 : Int32)).toInt64.toUInt64 &&& Int64.toUInt64 63)).toInt64) &&& 1085102592571150095)).toUInt64 >>> (((8 : Int32)).toInt64.toUInt64 &&& Int64.toUInt64 63)).toInt64) + ((((((((x0 - (((x0).toUInt64 >>> (((1 : Int32)).toInt64.toUInt64 &&& Int64.toUInt64 63)).toInt64 &&& 6148914691236517205)) &&& 3689348814741910323) + ((((x0 - (((x0).toUInt64 >>> (((1 : Int32)).toInt64.toUInt64 &&& Int64.toUInt64 63)).toInt64 &&& 6148914691236517205))).toUInt64 >>> (((2 : Int32)).toInt64.toUInt64 &&& Int64.toUInt64 63)).toInt64 &&& 3689348814741910323)) + (((((x0 - (((x0).toUInt64 >>> (((1 : Int32)).toInt64.toUInt64 &&& Int64.toUInt64 63)).toInt64 &&& 6148914691236517205)) &&& 3689348814741910323) + ((((x0 - (((x0).toUInt64 >>> (((1 : Int32)).toInt64.toUInt64 &&& Int64.toUInt64 63)).toInt64 &&& 6148914691236517205))).toUInt64 >>> (((2 : Int32)).toInt64.toUInt64 &&& Int64.toUInt64 63)).toInt64 &&& 3689348814741910323))).toUInt64 >>> (((4 : Int32)).toInt64.toUInt64 &&& Int64.toUInt64 63)).toInt64) &&& 1085102592571150095) + (((((((x0 - (((x0).toUInt64 >>> (((1 : Int32)).toInt64.toUInt64 &&& Int64.toUInt64 63)).toInt64 &&& 6148914691236517205)) &&& 3689348814741910323) + ((((x0 - (((x0).toUInt64 >>> (((1 : Int32)).toInt64.toUInt64 &&& Int64.toUInt64 63)).toInt64 &&& 6148914691236517205))).toUInt64 >>> (((2 : Int32)).toInt64.toUInt64 &&& Int64.toUInt64 63)).toInt64 &&& 3689348814741910323)) + (((((x0 - (((x0).toUInt64 >>> (((1 : Int32)).toInt64.toUInt64 &&& Int64.toUInt64 63)).toInt64 &&& 6148914691236517205)) &&& 3689348814741910323) + ((((x0 - (((x0).toUInt64 >>> (((1 : Int32)).toInt64.toUInt64 &&& Int64.toUInt64 63)).toInt64 &&& 6148914691236517205))).toUInt64 >>> (((2 : Int32)).toInt64.toUInt64 &&& Int64.toUInt64 63)).toInt64 &&& 3689348814741910323))).toUInt64 >>> (((4 : Int32)).toInt64.toUInt64 &&& Int64.toUInt64 63)).toInt64) &&& 1085102592571150095)).toUInt64 >>> (((8 : Int32)).toInt64.toUInt64 &&& Int64.toUInt64 63)).toInt64)).toUInt64 >>> (((16 : Int32)).toInt64.toUInt64 &&& Int64.toUInt64 63)).toInt64)).toUInt64 >>> (((32 : Int32)).toInt64.toUInt64 &&& Int64.toUInt64 63)).toInt64)).toInt32 &&& 127))) (ab_G mi ml)) :
    ab_W call ro 0 0 (ab_lk2 pl_J13_bitCount_95d88) Q (0, [some (.long x0), none], [], 0, 0, ab_G mi ml) := by
  exact ab_wr 49 rfl ⟨trivial, trivial, trivial, trivial, trivial, trivial, trivial, trivial, trivial, trivial, trivial, trivial, trivial, trivial, trivial, trivial, trivial, trivial, trivial, trivial, trivial, trivial, trivial, trivial, trivial, trivial, trivial, trivial, trivial, trivial, trivial, trivial, trivial, trivial, trivial, trivial, trivial, trivial, trivial, trivial, trivial, trivial, trivial, trivial, trivial, trivial, trivial, trivial, trivial⟩ h
theorem vc_J3_checkIndex_8e157_0 {call : Nat → List Value → ab_S → Option Value → ab_S → Prop} {ro : ab_E} {Q : Option Value → ab_S → Prop} (x0 : Int32) (x1 : Int32) (mi : Nat → Nat → Int32) (ml : Nat → Nat → Int64)
    (h : ((x0 < 0) → (False)) ∧ (¬ (x0 < 0) → (((x0 < x1) → (Q (some (.int x0)) (ab_G mi ml))) ∧ (¬ (x0 < x1) → (False))))) :
    ab_W call ro 0 0 (ab_lk2 pl_J3_checkIndex_8e157) Q (0, [some (.int x0), some (.int x1), some (.retAddr 0)], [], 0, 0, ab_G mi ml) := by
  refine ab_wk 2 (f' := (if x0 < 0 then 9 else 4, [some (.int x0), some (.int x1), some (.retAddr 0)], [], 0, 0, (ab_G mi ml))) rfl ⟨trivial, trivial, trivial⟩ ?_
  refine ab_wi (fun c => ?_) (fun c => ?_)
  · have h := h.1 c
    exact h.elim
  · have h := h.2 c
    refine ab_wk 3 (f' := (if x0 < x1 then 16 else 9, [some (.int x0), some (.int x1), some (.retAddr 0)], [], 0, 0, (ab_G mi ml))) rfl ⟨trivial, trivial, trivial, trivial⟩ ?_
    refine ab_wi (fun c => ?_) (fun c => ?_)
    · have h := h.1 c
      exact ab_wr 2 rfl ⟨trivial, trivial⟩ h
    · have h := h.2 c
      exact h.elim
