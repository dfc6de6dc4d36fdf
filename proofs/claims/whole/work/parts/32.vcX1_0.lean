theorem vc_X1_pass_0 {call : Nat → List Value → ab_S → Option Value → ab_S → Prop} {ro : ab_E} {Q : Option Value → ab_S → Prop} (x1 : Int32) (mi : Nat → Nat → Int32) (ml : Nat → Nat → Int64)
    (h : ((x1 < 0) → (Q (some (.int (-1))) (ab_G mi ml))) ∧ (¬ (x1 < 0) → (((1000 < x1) → (Q (some (.int (-1))) (ab_G mi ml))) ∧ (¬ (1000 < x1) → (((((9999 : Int32) - (mi 1 0)) < x1) → (Q (some (.int (-1))) (ab_G mi ml))) ∧ (¬ (((9999 : Int32) - (mi 1 0)) < x1) → (Q (some (.int ((mi 1 0) + x1))) (ab_G (ab_ui mi 1 0 ((mi 1 0) + x1)) ml)))))))) :
    ab_W call ro 0 0 (ab_lk2 pl_X1_pass) Q (0, [some (.ref 1), some (.int x1)], [], 0, 0, ab_G mi ml) := by
  refine ab_wk 2 (f' := (if x1 < 0 then 23 else 4, [some (.ref 1), some (.int x1)], [], 0, 0, (ab_G mi ml))) rfl ⟨trivial, trivial, trivial⟩ ?_
  refine ab_wi (fun c => ?_) (fun c => ?_)
  · have h := h.1 c
    exact ab_wr 2 rfl ⟨trivial, trivial⟩ h
  · have h := h.2 c
    refine ab_wk 3 (f' := (if 1000 < x1 then 23 else 11, [some (.ref 1), some (.int x1)], [], 0, 0, (ab_G mi ml))) rfl ⟨trivial, trivial, trivial, trivial⟩ ?_
    refine ab_wi (fun c => ?_) (fun c => ?_)
    · have h := h.1 c
      exact ab_wr 2 rfl ⟨trivial, trivial⟩ h
    · have h := h.2 c
      refine ab_wk 6 (f' := (if ((9999 : Int32) - (mi 1 0)) < x1 then 23 else 25, [some (.ref 1), some (.int x1)], [], 0, 0, (ab_G mi ml))) rfl ⟨trivial, trivial, trivial, trivial, trivial, trivial, trivial⟩ ?_
      refine ab_wi (fun c => ?_) (fun c => ?_)
      · have h := h.1 c
        exact ab_wr 2 rfl ⟨trivial, trivial⟩ h
      · have h := h.2 c
        exact ab_wr 9 rfl ⟨trivial, trivial, trivial, trivial, trivial, trivial, trivial, trivial, trivial⟩ h
theorem vc_X1_turnTo_0 {call : Nat → List Value → ab_S → Option Value → ab_S → Prop} {ro : ab_E} {Q : Option Value → ab_S → Prop} (x1 : Int32) (mi : Nat → Nat → Int32) (ml : Nat → Nat → Int64)
    (h : ((x1 < 0) → (Q (some (.int 0)) (ab_G mi ml))) ∧ (¬ (x1 < 0) → ((((mi 1 0) < x1) → (Q (some (.int 0)) (ab_G mi ml))) ∧ (¬ ((mi 1 0) < x1) → (((x1 = (mi 1 0)) → (Q (some (.int 1)) (ab_G (ab_ui mi 1 1 (-1)) ml))) ∧ (¬ (x1 = (mi 1 0)) → (Q (some (.int 1)) (ab_G (ab_ui mi 1 1 x1) ml)))))))) :
    ab_W call ro 0 0 (ab_lk2 pl_X1_turnTo) Q (0, [some (.ref 1), some (.int x1)], [], 0, 0, ab_G mi ml) := by
  refine ab_wk 2 (f' := (if x1 < 0 then 12 else 4, [some (.ref 1), some (.int x1)], [], 0, 0, (ab_G mi ml))) rfl ⟨trivial, trivial, trivial⟩ ?_
  refine ab_wi (fun c => ?_) (fun c => ?_)
  · have h := h.1 c
    exact ab_wr 2 rfl ⟨trivial, (Or.inl rfl)⟩ h
  · have h := h.2 c
    refine ab_wk 4 (f' := (if (mi 1 0) < x1 then 12 else 14, [some (.ref 1), some (.int x1)], [], 0, 0, (ab_G mi ml))) rfl ⟨trivial, trivial, trivial, trivial, trivial⟩ ?_
    refine ab_wi (fun c => ?_) (fun c => ?_)
    · have h := h.1 c
      exact ab_wr 2 rfl ⟨trivial, (Or.inl rfl)⟩ h
    · have h := h.2 c
      refine ab_wk 5 (f' := (if x1 = (mi 1 0) then 23 else 27, [some (.ref 1), some (.int x1)], [.ref 1], 0, 0, (ab_G mi ml))) rfl ⟨trivial, trivial, trivial, trivial, trivial, trivial⟩ ?_
      refine ab_wi (fun c => ?_) (fun c => ?_)
      · have h := h.1 c
        exact ab_wr 5 rfl ⟨trivial, trivial, trivial, trivial, (Or.inr rfl)⟩ h
      · have h := h.2 c
        exact ab_wr 4 rfl ⟨trivial, trivial, trivial, (Or.inr rfl)⟩ h
theorem vc_X1_seen_0 {call : Nat → List Value → ab_S → Option Value → ab_S → Prop} {ro : ab_E} {Q : Option Value → ab_S → Prop}  (mi : Nat → Nat → Int32) (ml : Nat → Nat → Int64)
    (h : (((mi 1 1) = (-1)) → (Q (some (.int (mi 1 0))) (ab_G mi ml))) ∧ (¬ ((mi 1 1) = (-1)) → (Q (some (.int (mi 1 1))) (ab_G mi ml)))) :
    ab_W call ro 0 0 (ab_lk2 pl_X1_seen) Q (0, [some (.ref 1)], [], 0, 0, ab_G mi ml) := by
  refine ab_wk 4 (f' := (if (mi 1 1) = (-1) then 8 else 15, [some (.ref 1)], [], 0, 0, (ab_G mi ml))) rfl ⟨trivial, trivial, trivial, trivial, trivial⟩ ?_
  refine ab_wi (fun c => ?_) (fun c => ?_)
  · have h := h.1 c
    exact ab_wr 4 rfl ⟨trivial, trivial, trivial, trivial⟩ h
  · have h := h.2 c
    exact ab_wr 3 rfl ⟨trivial, trivial, trivial⟩ h
