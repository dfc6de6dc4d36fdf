section ABX
variable {p : Program} {l : Launch} {e : Env} {R : Room} {s : State} {m : MethodId} {args : Array Value} {below : List Frame} {meth : Method} {c : Code} {Q : State → Prop}
variable {ow : Nat} {ini : Bool} {cc : ByteArray} {rt : Option FieldType} {nL : Nat} {D : va_G} {cy : Nat → ClassId} {aa : Nat → Nat} {zv : Value} {base : Nat} {ro : ab_E} {A : Nat → Prop} {mc ms c0 s0 h0 n0 d : Nat} {am : Nat → Nat × Nat}
/-- a run of the abstract machine is one of the JVM -/
theorem ab_run_ok (C0 : ab_Cx p R s m args meth c ow ini cc nL D cy aa zv base ro A mc ms c0 s0 h0 n0) (hR : d + 2 ≤ R.frames ∧ 40 * (d + 2) ≤ R.locals) {pg : Nat → Option ab_I} (hpg : ∀ (pc : Nat) (en : ab_I), pg pc = some en → ab_chk am ow ini cc rt pc en = true)
    {call : Nat → List Value → ab_S → Option Value → ab_S → Prop} (hcall : ∀ k as g r g', call k as g r g' → ab_Ct l D cy aa zv base ro am d k as g r g') {sp : Nat → Bool} {Qr : Option Value → ab_S → Prop} {X : ab_F → Prop}
    (KR : ∀ r g, Qr r g → ab_Kt p l e R s m args below meth c Q cc rt nL D cy aa zv h0 n0 A mc ms c0 s0 (.inr (r, g))) (KX : ∀ f, X f → ab_Kt p l e R s m args below meth c Q cc rt nL D cy aa zv h0 n0 A mc ms c0 s0 (.inl f)) :
    ∀ (n : Nat) (f : ab_F), ab_run call ro mc ms pg sp Qr X n f → ab_Kt p l e R s m args below meth c Q cc rt nL D cy aa zv h0 n0 A mc ms c0 s0 (.inl f) := by
  intro n
  induction n with
  | zero => intro f h; exact h.elim
  | succ n ih =>
    intro f h
    unfold ab_run at h
    cases hsp : sp f.1 with
    | true =>
      rw [hsp] at h
      exact KX f h
    | false =>
      rw [hsp] at h
      dsimp only at h
      cases hpc : pg f.1 with
      | none =>
        rw [hpc] at h
        exact h.elim
      | some en =>
        rw [hpc] at h
        dsimp only at h
        have hck := hpg _ _ hpc
        obtain ⟨i, len, a, b, v, cs, w⟩ := en
        obtain ⟨pc, ll, st, c1, s1, g⟩ := f
        dsimp only at hck
        intro H locs ls hS
        cases hst : ab_step ro mc ms (i, len, a, b, v, cs, w) (pc, ll, st, c1, s1, g) with
        | none =>
          rw [hst] at h
          exact h.elim
        | some x =>
          obtain ⟨P, nx⟩ := x
          rw [hst] at h
          rcases nx with f' | ⟨r, g'⟩ | ⟨k, as, pc', ll', st', c', s', g'⟩
          · exact ab_step_ok (am := am) C0 hR hck hst h.1 hS (fun f hf => by cases hf; exact ih _ h.2) (fun r hr => by cases hr) (fun k as pc' ll' st' c' s' g' hq => by cases hq)
          · exact ab_step_ok (am := am) C0 hR hck hst h.1 hS (fun f hf => by cases hf) (fun r hr => by cases hr; exact KR _ _ h.2) (fun k as pc' ll' st' c' s' g' hq => by cases hq)
          · obtain ⟨hP, r, g'', h1, h2⟩ := h
            exact ab_step_ok (am := am) C0 hR hck hst hP hS (fun f hf => by cases hf) (fun r hr => by cases hr) (fun k as pc' ll' st' c' s' g' hq => by cases hq; exact ⟨r, g'', hcall _ _ _ _ _ h1, ih _ h2⟩)
end ABX
/-- a method's row of the table of rows is right -/
def ab_mtok (am : Nat → Nat × Nat) (k : Nat) (q : ab_M) : Prop := match q with
  | (pg, nL, mc, ms) => am k = (mc, ms) ∧ nL ≤ 21 ∧ ∃ (y : MethodName) (cc : ByteArray) (rt : Option FieldType) (oc kd n : Nat), ab_ML[k]? = some (y, cc, nL, rt, oc, kd, n) ∧ ∀ (pc : Nat) (en : ab_I), pg pc = some en → ab_chk am oc (decide (kd = 2)) cc rt pc en = true
set_option maxHeartbeats 1000000 in
/-- what the abstract machine says of a method is its contract -/
theorem ab_sem_ok {l : Launch} {D : va_G} {cy : Nat → ClassId} {aa : Nat → Nat} {zv : Value} {base : Nat} {ro : ab_E} {am : Nat → Nat × Nat} (haa : ∀ x, x < 1000 → aa x = base + x) {mt : Nat → Option ab_M} (hmt : ∀ k q, mt k = some q → ab_mtok am k q) :
    ∀ (d k : Nat) (as : List Value) (g : ab_S) (r : Option Value) (g' : ab_S), ab_sem ro mt d k as g r g' → ab_Ct l D cy aa zv base ro am d k as g r g' := by
  intro d
  induction d with
  | zero => intro k as g r g' h; exact h.elim
  | succ d ih =>
    intro k as g r g' h
    unfold ab_sem at h
    cases hk : mt k with
    | none =>
      rw [hk] at h
      exact h.elim
    | some x =>
      rw [hk] at h
      obtain ⟨pg, nL, mc, ms⟩ := x
      obtain ⟨hea, n, hrun⟩ := h
      have hea := Nat.le_of_ble_eq_true hea
      obtain ⟨ham, hnL, y, cc, rt, oc, kd, np, hML, hck⟩ := hmt k _ hk
      obtain ⟨m1, m2, m3, m4, m5, m6, m7, m8⟩ := ab_ML_ok _ (List.mem_of_getElem? hML)
      intro q hq
      rw [hML] at hq
      cases hq
      refine ⟨hnL, fun sz => ?_⟩
      rw [ham]
      refine Met.ofW (cc := cc) (maxL := nL) (ret := rt) m2 rfl ?_
      intro p e s m args below meth c s₁ B hml hv
      obtain ⟨rfl, hsz, hP, hK, hD0, hE, hbs⟩ := hv
      have hz : zv.category = 1 := hE.2.2.2.2.2.2
      have hts := atoms_spec (ws := Cond.code y cc nL rt :: ab_big) B.pre
      have hown : s.vm.findClass (ab_own oc) = some m.cls := by rw [← m1]; exact findClass_of_methodNamed B.named
      have hlocks := B.notSynchronized
      have hret := B.returns
      subst hsz
      have hA : ∀ q : Nat, s.heap.size ≤ q → va_A (ab_ws cy aa g) s.heap.size q := fun q h => Or.inr h
      have C0 : ab_Cx p (headSpec (Cond.code y cc nL rt :: ab_big) (ab_rm (d + 1) (mc, ms))).room s m (as.map (ab_tr aa zv)).toArray meth c oc (decide (kd = 2)) cc nL D cy aa zv base ro (va_A (ab_ws cy aa g) s.heap.size) mc ms 0 0 s.heap.size g.1.length := by
        refine ⟨B.exec, B.bytes, hml, hown, fun w hw => hts w (List.mem_cons_of_mem _ hw), hK, hE, hA, fun hq => ?_, ?_, ?_, ?_, ?_, haa, hbs⟩
        · have hkd : kd = 2 := of_decide_eq_true hq
          subst hkd
          have h8 : y.name = "<init>" := m8.1
          rw [← h8]
          exact (name_of_methodNamed B.named B.method).1
        · show 1 ≤ d + 1 + 1
          omega
        · show 30 ≤ 40 * (d + 1 + 1)
          omega
        · show 0 + mc ≤ mc
          omega
        · show 0 + ms ≤ ms
          omega
      have hent := ab_ent_lh (aa := aa) (zv := zv) hz as (n := nL) hea
      have hS : ab_St nL D cy aa zv s.heap.size g.1.length (va_A (ab_ws cy aa g) s.heap.size) s (ab_ent nL as) g s.heap [] ((lg_sl (as.map (ab_tr aa zv)) ++ List.replicate (nL - (lg_sl (as.map (ab_tr aa zv))).length) Slot.unset).toArray) :=
        ⟨hent, by unfold ab_ent; simp; omega, hP, hD0.self, va_S.rf, rfl⟩
      rw [lg_entry_eq]
      have hfin := ab_run_ok (p := p) (l := l) (e := e) (m := m) (below := below) (meth := meth) (c := c) (rt := rt) (Q := MQ below (ab_QU D cy aa zv g s.heap.size r g') (as.map (ab_tr aa zv)).toArray s mc ms (va_A (ab_ws cy aa g) s.heap.size)) C0 (d := d) ⟨Nat.le_refl _, Nat.le_refl _⟩ hck (fun k as g r g' h => ih k as g r g' h)
        (Qr := fun r' h => r' = r ∧ h = g') (X := fun _ => False) (fun r2 g2 h2 => ?_) (fun f hf => hf.elim) n _ hrun
      · have := hfin s.heap [] _ hS
        exact this
      · obtain ⟨rfl, rfl⟩ := h2
        intro H locs ls pc c1 s1 hc1 hs1 hd hok hP2 hD2 hS2 hsz2
        have hq : ∀ t : State, t.heap = H → s.WarmedH t.vm → ab_QU D cy aa zv g s.heap.size r2 g2 (as.map (ab_tr aa zv)).toArray s (.returned (r2.map (ab_tr aa zv))) t := fun t ht _ => ⟨rfl, by rw [ht]; exact hP2, hD2, hS2.F ht, by rw [ht]; exact hsz2⟩
        refine W.widen (k := mc) (n := ms) (by omega) (by omega) ?_
        cases r2 with
        | none => exact W.vret B.exec B.bytes (hret.trans hok) hq hS2.2.2 hd hlocks
        | some v =>
          cases v with
          | int x =>
            obtain ⟨ty, q1, q2⟩ := hok
            exact W.zret B.exec B.bytes (hret.trans q1) q2 hq hS2.2.2 hd hlocks
          | long x => exact W.lret B.exec B.bytes (hret.trans hok) hq hS2.2.2 hd hlocks
          | _ => exact hok.elim
