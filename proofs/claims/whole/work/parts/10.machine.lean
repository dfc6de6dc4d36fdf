/-! The abstract machine: references are numbers of cells, memories are functions; what a run of it does, the JVM does (part 12). -/
abbrev ab_K : Type := (Nat × Nat) ⊕ Nat
/-- kinds of the cells, their references, their ints, their longs -/
abbrev ab_S : Type := List ab_K × List (List (Option Nat)) × (Nat → Nat → Int32) × (Nat → Nat → Int64)
abbrev ab_L : Type := List (Option Value)
/-- place, variables, stack, cells made, slots made, memory -/
abbrev ab_F : Type := Nat × ab_L × List Value × Nat × Nat × ab_S
/-- instruction, its length, two numbers, a value, cases, the row of a table -/
abbrev ab_I : Type := Instr × Nat × Nat × Nat × Value × List (Int32 × Nat) × Nat
abbrev ab_N : Type := ab_F ⊕ ((Option Value × ab_S) ⊕ (Nat × List Value × ab_F))
/-- arrays that nobody writes: type, length, contents -/
abbrev ab_E : Type := Nat → Option (Nat × Nat × (Nat → Value))
def ab_B : Nat := 1000000
def ab_ui (m : Nat → Nat → Int32) (k j : Nat) (v : Int32) : Nat → Nat → Int32 := fun a => if a = k then upd (m a) j v else m a
def ab_ul (m : Nat → Nat → Int64) (k j : Nat) (v : Int64) : Nat → Nat → Int64 := fun a => if a = k then vp_updL (m a) j v else m a
def ab_zi (m : Nat → Nat → Int32) (k : Nat) : Nat → Nat → Int32 := fun a => if a = k then (fun _ => 0) else m a
def ab_zl (m : Nat → Nat → Int64) (k : Nat) : Nat → Nat → Int64 := fun a => if a = k then (fun _ => 0) else m a
def ab_k2 (ll : ab_L) (i : Nat) : ab_L := match i with
  | 0 => ll
  | j + 1 => match ll[j]? with
    | some (some v) => cond (Nat.beq v.category 2) (ll.set j none) ll
    | _ => ll
def ab_s1 (ll : ab_L) (i : Nat) (v : Value) : ab_L := (ab_k2 ll i).set i (some v)
def ab_s2 (ll : ab_L) (i : Nat) (v : Value) : ab_L := ((ab_k2 ll i).set i (some v)).set (i + 1) none
def ab_ea : List Value → ab_L
  | [] => []
  | v :: t => cond (Nat.beq v.category 2) (some v :: none :: ab_ea t) (some v :: ab_ea t)
def ab_ent (n : Nat) (vs : List Value) : ab_L := ab_ea vs ++ List.replicate (n - (ab_ea vs).length) none
def ab_isO (sh : List ab_K) (k c : Nat) : Bool := match sh[k]? with
  | some (.inr d) => Nat.beq d c
  | _ => false
def ab_sw (x : Int32) : List (Int32 × Nat) → Nat → Nat
  | [], d => d
  | (k, t) :: r, d => if x = k then t else ab_sw x r d
/-- an answer of a narrower type is what it is -/
def ab_nar (t : Nat) (x : Int32) : Prop := match t with
  | 0 => True
  | 1 => x = 0 ∨ x = 1
  | 2 => narrow .char (.int x) = .int x
  | _ => narrow .byte (.int x) = .int x
def ab_to (pc : Nat) (ll : ab_L) (st : List Value) (c s : Nat) (g : ab_S) : Option (Prop × ab_N) := some (True, .inl (pc, ll, st, c, s, g))
def ab_pr (P : Prop) (pc : Nat) (ll : ab_L) (st : List Value) (c s : Nat) (g : ab_S) : Option (Prop × ab_N) := some (P, .inl (pc, ll, st, c, s, g))
def ab_ii (f : Int32 → Int32 → Int32) (pc : Nat) (ll : ab_L) (st : List Value) (c s : Nat) (g : ab_S) : Option (Prop × ab_N) := match st with
  | .int y :: .int x :: r => ab_to pc ll (.int (f x y) :: r) c s g
  | _ => none
def ab_jj (f : Int64 → Int64 → Int64) (pc : Nat) (ll : ab_L) (st : List Value) (c s : Nat) (g : ab_S) : Option (Prop × ab_N) := match st with
  | .long y :: .long x :: r => ab_to pc ll (.long (f x y) :: r) c s g
  | _ => none
def ab_ji (f : Int64 → Int32 → Int64) (pc : Nat) (ll : ab_L) (st : List Value) (c s : Nat) (g : ab_S) : Option (Prop × ab_N) := match st with
  | .int y :: .long x :: r => ab_to pc ll (.long (f x y) :: r) c s g
  | _ => none
def ab_i1 (f : Int32 → Value) (pc : Nat) (ll : ab_L) (st : List Value) (c s : Nat) (g : ab_S) : Option (Prop × ab_N) := match st with
  | .int x :: r => ab_to pc ll (f x :: r) c s g
  | _ => none
def ab_j1 (f : Int64 → Value) (pc : Nat) (ll : ab_L) (st : List Value) (c s : Nat) (g : ab_S) : Option (Prop × ab_N) := match st with
  | .long x :: r => ab_to pc ll (f x :: r) c s g
  | _ => none
def ab_c1 (f : Int32 → Nat) (ll : ab_L) (st : List Value) (c s : Nat) (g : ab_S) : Option (Prop × ab_N) := match st with
  | .int x :: r => ab_to (f x) ll r c s g
  | _ => none
def ab_c2 (f : Int32 → Int32 → Nat) (ll : ab_L) (st : List Value) (c s : Nat) (g : ab_S) : Option (Prop × ab_N) := match st with
  | .int y :: .int x :: r => ab_to (f x y) ll r c s g
  | _ => none
/-- a load from an array: t its type -/
def ab_ald (ro : ab_E) (t1 t2 pc : Nat) (ll : ab_L) (st : List Value) (c s : Nat) (g : ab_S) : Option (Prop × ab_N) := match st with
  | .int i :: .ref k :: r => match g.1[k]? with
    | some (.inl (t, n)) => cond (Nat.beq t t1 || Nat.beq t t2) (ab_pr (vp_in i n) pc ll ((cond (Nat.beq t 1) (.long (g.2.2.2 k i.toNatClampNeg)) (.int (g.2.2.1 k i.toNatClampNeg))) :: r) c s g) none
    | some (.inr _) => none
    | none => match ro k with
      | some (t, n, f) => cond (Nat.beq t t1 || Nat.beq t t2) (ab_pr (vp_in i n) pc ll (f i.toNatClampNeg :: r) c s g) none
      | none => none
  | _ => none
/-- a store of an int into an array -/
def ab_ast (t1 t2 pc : Nat) (ll : ab_L) (st : List Value) (c s : Nat) (g : ab_S) : Option (Prop × ab_N) := match st with
  | .int x :: .int i :: .ref k :: r => match g.1[k]? with
    | some (.inl (t, n)) => cond (Nat.beq t t1 || Nat.beq t t2) (ab_pr (vp_in i n) pc ll r c s (g.1, g.2.1, ab_ui g.2.2.1 k i.toNatClampNeg (cond (Nat.beq t 0) x (cond (Nat.beq t 2) (vp_nar .boolean x) (vp_nar .byte x))), g.2.2.2)) none
    | _ => none
  | _ => none
def ab_lst (pc : Nat) (ll : ab_L) (st : List Value) (c s : Nat) (g : ab_S) : Option (Prop × ab_N) := match st with
  | .long x :: .int i :: .ref k :: r => match g.1[k]? with
    | some (.inl (t, n)) => cond (Nat.beq t 1) (ab_pr (vp_in i n) pc ll r c s (g.1, g.2.1, g.2.2.1, ab_ul g.2.2.2 k i.toNatClampNeg x)) none
    | _ => none
  | _ => none
def ab_len (ro : ab_E) (pc : Nat) (ll : ab_L) (st : List Value) (c s : Nat) (g : ab_S) : Option (Prop × ab_N) := match st with
  | .ref k :: r => match g.1[k]? with
    | some (.inl (t, n)) => cond (Nat.blt t 4) (ab_to pc ll (.int (Int32.ofNat n) :: r) c s g) none
    | some (.inr _) => none
    | none => match ro k with
      | some (_, n, _) => ab_to pc ll (.int (Int32.ofNat n) :: r) c s g
      | none => none
  | _ => none
def ab_rf (mr : List (List (Option Nat))) (k j : Nat) : Value := match (mr.getD k []).getD j none with
  | some x => .ref x
  | none => .null
def ab_gf (a b : Nat) (v : Value) (pc : Nat) (ll : ab_L) (st : List Value) (c s : Nat) (g : ab_S) : Option (Prop × ab_N) := match st with
  | .ref k :: r => match v with
    | .int _ => cond (ab_isO g.1 k a) (ab_to pc ll (.int (g.2.2.1 k b) :: r) c s g) none
    | .long _ => cond (ab_isO g.1 k a) (ab_to pc ll (.long (g.2.2.2 k b) :: r) c s g) none
    | .null => cond (ab_isO g.1 k a) (ab_to pc ll (ab_rf g.2.1 k b :: r) c s g) none
    | .float _ => cond (Nat.ble ab_B k && Nat.blt k (ab_B + 15)) (ab_to pc ll (.ref (k + 100) :: r) c s g) none
    | .double _ => cond (Nat.ble ab_B k && Nat.blt k (ab_B + 15)) (ab_to pc ll (.int 0 :: r) c s g) none
    | _ => none
  | _ => none
def ab_pf (a b : Nat) (v : Value) (cs : List (Int32 × Nat)) (pc : Nat) (ll : ab_L) (st : List Value) (c s : Nat) (g : ab_S) : Option (Prop × ab_N) := match st with
  | x :: .ref k :: r => match v with
    | .int _ => match x with
      | .int y => cond (ab_isO g.1 k a) (match cs with
        | [] => ab_to pc ll r c s (g.1, g.2.1, ab_ui g.2.2.1 k b y, g.2.2.2)
        | _ => ab_pr (y = 0 ∨ y = 1) pc ll r c s (g.1, g.2.1, ab_ui g.2.2.1 k b y, g.2.2.2)) none
      | _ => none
    | .long _ => match x with
      | .long y => cond (ab_isO g.1 k a) (ab_to pc ll r c s (g.1, g.2.1, g.2.2.1, ab_ul g.2.2.2 k b y)) none
      | _ => none
    | .null => match x with
      | .ref y => cond (ab_isO g.1 k a && Nat.blt k g.2.1.length && Nat.blt b (g.2.1.getD k []).length) (ab_to pc ll r c s (g.1, g.2.1.set k ((g.2.1.getD k []).set b (some y)), g.2.2.1, g.2.2.2)) none
      | _ => none
    | _ => none
  | _ => none
/-- a call: n arguments (its object among them), v its object's kind -/
def ab_ca (mc ms a n : Nat) (v : Value) (cs : List (Int32 × Nat)) (pc : Nat) (ll : ab_L) (st : List Value) (c s : Nat) (g : ab_S) : Option (Prop × ab_N) :=
  cond (Nat.ble n st.length && Nat.ble ((st.drop n).map (fun v => v.category)).sum 8 && (match v with
    | .ref ci => (match (st.take n).getLast? with
      | some (.ref k) => ab_isO g.1 k ci
      | _ => false)
    | .null => (match (st.take n).getLast? with
      | some (.ref k) => Nat.ble ab_B k && Nat.blt k (ab_B + 15)
      | _ => false)
    | _ => true))
    (match cs with
      | [(_, kc), (_, ks)] => cond (Nat.ble (c + kc) mc && Nat.ble (s + ks) ms) (some (True, .inr (.inr (a, (st.take n).reverse, pc, ll, st.drop n, c + kc, s + ks, g)))) none
      | _ => cond (Nat.ble c mc && Nat.ble s ms) (some (True, .inr (.inr (a, (st.take n).reverse, pc, ll, st.drop n, c, s, g)))) none) none
def ab_rt (mc ms : Nat) (P : Prop) (v : Option Value) (c s : Nat) (g : ab_S) : Option (Prop × ab_N) := cond (Nat.ble c mc && Nat.ble s ms) (some (P, .inr (.inl (v, g)))) none
def ab_ldi (a : Nat) (pc : Nat) (ll : ab_L) (st : List Value) (c s : Nat) (g : ab_S) : Option (Prop × ab_N) := match ll[a]? with
  | some (some (.int x)) => ab_to pc ll (.int x :: st) c s g
  | _ => none
def ab_ldj (a : Nat) (pc : Nat) (ll : ab_L) (st : List Value) (c s : Nat) (g : ab_S) : Option (Prop × ab_N) := match ll[a]? with
  | some (some (.long x)) => ab_to pc ll (.long x :: st) c s g
  | _ => none
def ab_lda (a : Nat) (pc : Nat) (ll : ab_L) (st : List Value) (c s : Nat) (g : ab_S) : Option (Prop × ab_N) := match ll[a]? with
  | some (some (.ref x)) => ab_to pc ll (.ref x :: st) c s g
  | _ => none
def ab_sti (a : Nat) (pc : Nat) (ll : ab_L) (st : List Value) (c s : Nat) (g : ab_S) : Option (Prop × ab_N) := match st with
  | .int x :: r => cond (Nat.blt a ll.length) (ab_to pc (ab_s1 ll a (.int x)) r c s g) none
  | _ => none
def ab_sta (a : Nat) (pc : Nat) (ll : ab_L) (st : List Value) (c s : Nat) (g : ab_S) : Option (Prop × ab_N) := match st with
  | .ref x :: r => cond (Nat.blt a ll.length) (ab_to pc (ab_s1 ll a (.ref x)) r c s g) none
  | _ => none
def ab_stj (a : Nat) (pc : Nat) (ll : ab_L) (st : List Value) (c s : Nat) (g : ab_S) : Option (Prop × ab_N) := match st with
  | .long x :: r => cond (Nat.blt (a + 1) ll.length) (ab_to pc (ab_s2 ll a (.long x)) r c s g) none
  | _ => none
def ab_inc (a : Nat) (v : Value) (pc : Nat) (ll : ab_L) (st : List Value) (c s : Nat) (g : ab_S) : Option (Prop × ab_N) := match ll[a]? with
  | some (some (.int x)) => (match v with
    | .int y => cond (Nat.blt a ll.length) (ab_to pc (ab_s1 ll a (.int (x + y))) st c s g) none
    | _ => none)
  | _ => none
def ab_dv  (pc : Nat) (ll : ab_L) (st : List Value) (c s : Nat) (g : ab_S) : Option (Prop × ab_N) := match st with
  | .int y :: .int x :: r => ab_pr (¬ y = 0) pc ll (.int (x / y) :: r) c s g
  | _ => none
def ab_cm  (pc : Nat) (ll : ab_L) (st : List Value) (c s : Nat) (g : ab_S) : Option (Prop × ab_N) := match st with
  | .long y :: .long x :: r => ab_to pc ll (.int (lg_cmp x y) :: r) c s g
  | _ => none
def ab_du  (pc : Nat) (ll : ab_L) (st : List Value) (c s : Nat) (g : ab_S) : Option (Prop × ab_N) := match st with
  | x :: r => cond (Nat.beq x.category 1) (ab_to pc ll (x :: x :: r) c s g) none
  | _ => none
def ab_d2  (pc : Nat) (ll : ab_L) (st : List Value) (c s : Nat) (g : ab_S) : Option (Prop × ab_N) := match st with
  | x :: y :: r => cond (Nat.beq x.category 1 && Nat.beq y.category 1) (ab_to pc ll (x :: y :: x :: y :: r) c s g) none
  | _ => none
def ab_po  (pc : Nat) (ll : ab_L) (st : List Value) (c s : Nat) (g : ab_S) : Option (Prop × ab_N) := match st with
  | x :: r => cond (Nat.beq x.category 1) (ab_to pc ll r c s g) none
  | _ => none
def ab_nw (mc ms a b : Nat) (pc : Nat) (ll : ab_L) (st : List Value) (c s : Nat) (g : ab_S) : Option (Prop × ab_N) := cond (Nat.ble (c + 1) mc && Nat.ble (s + b) ms && Nat.blt g.1.length 1000 && Nat.beq g.2.1.length g.1.length) (ab_to pc ll (.ref g.1.length :: st) (c + 1) (s + b) (g.1 ++ [.inr a], g.2.1 ++ [List.replicate b none], ab_zi g.2.2.1 g.1.length, ab_zl g.2.2.2 g.1.length)) none
def ab_na (mc ms a b : Nat) (pc : Nat) (ll : ab_L) (st : List Value) (c s : Nat) (g : ab_S) : Option (Prop × ab_N) := match st with
  | .int n :: r => cond (Nat.ble (c + 1) mc && Nat.ble (s + b) ms && Nat.blt g.1.length 1000 && Nat.beq g.2.1.length g.1.length) (ab_pr (n.toNatClampNeg = b ∧ ¬ n < 0) pc ll (.ref g.1.length :: r) (c + 1) (s + b) (g.1 ++ [.inl (a, b)], g.2.1 ++ [[]], ab_zi g.2.2.1 g.1.length, ab_zl g.2.2.2 g.1.length)) none
  | _ => none
def ab_ob  (pc : Nat) (ll : ab_L) (st : List Value) (c s : Nat) (g : ab_S) : Option (Prop × ab_N) := match st with
  | .ref _ :: r => cond (Nat.ble ((r.map (fun v => v.category)).sum) 8) (ab_to pc ll r c s g) none
  | _ => none
def ab_mi2 (mc ms : Nat) (pc : Nat) (ll : ab_L) (st : List Value) (c s : Nat) (g : ab_S) : Option (Prop × ab_N) := match st with
  | .int y :: .int x :: r => cond (Nat.ble ((r.map (fun v => v.category)).sum) 8 && Nat.ble c mc && Nat.ble s ms) (ab_to pc ll (.int (if y < x then y else x) :: r) c s g) none
  | _ => none
def ab_is (mc ms a b : Nat) (v : Value) (cs : List (Int32 × Nat)) (pc : Nat) (ll : ab_L) (st : List Value) (c s : Nat) (g : ab_S) : Option (Prop × ab_N) := match v with
  | .float _ => ab_mi2 mc ms pc ll st c s g
  | _ => ab_ca mc ms a b v cs pc ll st c s g
def ab_ip (mc ms a b : Nat) (v : Value) (cs : List (Int32 × Nat)) (pc : Nat) (ll : ab_L) (st : List Value) (c s : Nat) (g : ab_S) : Option (Prop × ab_N) := match v with
  | .double _ => ab_ob pc ll st c s g
  | _ => ab_ca mc ms a b v cs pc ll st c s g
def ab_ri (mc ms b : Nat) (st : List Value) (c s : Nat) (g : ab_S) : Option (Prop × ab_N) := match st with
  | [.int x] => ab_rt mc ms (ab_nar b x) (some (.int x)) c s g
  | _ => none
def ab_rj (mc ms : Nat) (st : List Value) (c s : Nat) (g : ab_S) : Option (Prop × ab_N) := match st with
  | [.long x] => ab_rt mc ms True (some (.long x)) c s g
  | _ => none
def ab_rv (mc ms : Nat) (st : List Value) (c s : Nat) (g : ab_S) : Option (Prop × ab_N) := match st with
  | [] => ab_rt mc ms True none c s g
  | _ => none
def ab_step (ro : ab_E) (mc ms : Nat) (en : ab_I) (f : ab_F) : Option (Prop × ab_N) := match en with
  | (i, len, a, b, v, cs, _) => match f with
    | (pc, ll, st, c, s, g) => match i with
      | .iconst _ => ab_to (pc + len) ll (v :: st) c s g
      | .bipush _ => ab_to (pc + len) ll (v :: st) c s g
      | .sipush _ => ab_to (pc + len) ll (v :: st) c s g
      | .lconst _ => ab_to (pc + len) ll (v :: st) c s g
      | .ldc _ => ab_to (pc + len) ll (v :: st) c s g
      | .ldc_w _ => ab_to (pc + len) ll (v :: st) c s g
      | .ldc2_w _ => ab_to (pc + len) ll (v :: st) c s g
      | .getstatic _ => ab_to (pc + len) ll (v :: st) c s g
      | .iload_n _ => ab_ldi a (pc + len) ll st c s g
      | .iload _ => ab_ldi a (pc + len) ll st c s g
      | .lload_n _ => ab_ldj a (pc + len) ll st c s g
      | .lload _ => ab_ldj a (pc + len) ll st c s g
      | .aload_n _ => ab_lda a (pc + len) ll st c s g
      | .aload _ => ab_lda a (pc + len) ll st c s g
      | .istore_n _ => ab_sti a (pc + len) ll st c s g
      | .istore _ => ab_sti a (pc + len) ll st c s g
      | .lstore_n _ => ab_stj a (pc + len) ll st c s g
      | .lstore _ => ab_stj a (pc + len) ll st c s g
      | .astore_n _ => ab_sta a (pc + len) ll st c s g
      | .astore _ => ab_sta a (pc + len) ll st c s g
      | .iinc _ _ => ab_inc a v (pc + len) ll st c s g
      | .iadd => ab_ii (fun x y => x + y) (pc + len) ll st c s g
      | .isub => ab_ii (fun x y => x - y) (pc + len) ll st c s g
      | .imul => ab_ii (fun x y => x * y) (pc + len) ll st c s g
      | .iand => ab_ii (fun x y => x &&& y) (pc + len) ll st c s g
      | .ior => ab_ii (fun x y => x ||| y) (pc + len) ll st c s g
      | .ixor => ab_ii (fun x y => x ^^^ y) (pc + len) ll st c s g
      | .ishl => ab_ii (fun x y => x <<< (y &&& 31)) (pc + len) ll st c s g
      | .ishr => ab_ii (fun x y => x >>> (y &&& 31)) (pc + len) ll st c s g
      | .iushr => ab_ii (fun x y => (x.toUInt32 >>> (y.toUInt32 &&& Int32.toUInt32 31)).toInt32) (pc + len) ll st c s g
      | .idiv => ab_dv (pc + len) ll st c s g
      | .ladd => ab_jj (fun x y => x + y) (pc + len) ll st c s g
      | .lsub => ab_jj (fun x y => x - y) (pc + len) ll st c s g
      | .lmul => ab_jj (fun x y => x * y) (pc + len) ll st c s g
      | .land => ab_jj (fun x y => x &&& y) (pc + len) ll st c s g
      | .lor => ab_jj (fun x y => x ||| y) (pc + len) ll st c s g
      | .lxor => ab_jj (fun x y => x ^^^ y) (pc + len) ll st c s g
      | .lshl => ab_ji (fun x y => x <<< (y.toInt64 &&& 63)) (pc + len) ll st c s g
      | .lshr => ab_ji (fun x y => x >>> (y.toInt64 &&& 63)) (pc + len) ll st c s g
      | .lushr => ab_ji (fun x y => (x.toUInt64 >>> (y.toInt64.toUInt64 &&& Int64.toUInt64 63)).toInt64) (pc + len) ll st c s g
      | .lneg => ab_j1 (fun x => .long (-x)) (pc + len) ll st c s g
      | .l2i => ab_j1 (fun x => .int x.toInt32) (pc + len) ll st c s g
      | .i2l => ab_i1 (fun x => .long x.toInt64) (pc + len) ll st c s g
      | .i2b => ab_i1 (fun x => .int x.toInt8.toInt32) (pc + len) ll st c s g
      | .i2c => ab_i1 (fun x => .int (x.toUInt32 % 65536).toInt32) (pc + len) ll st c s g
      | .lcmp => ab_cm (pc + len) ll st c s g
      | .ifCond k _ => (match k with
        | .eq => ab_c1 (fun x => if x = 0 then a else pc + len) ll st c s g
        | .ne => ab_c1 (fun x => if x = 0 then pc + len else a) ll st c s g
        | .lt => ab_c1 (fun x => if x < 0 then a else pc + len) ll st c s g
        | .ge => ab_c1 (fun x => if x < 0 then pc + len else a) ll st c s g
        | .gt => ab_c1 (fun x => if 0 < x then a else pc + len) ll st c s g
        | .le => ab_c1 (fun x => if 0 < x then pc + len else a) ll st c s g)
      | .if_icmp k _ => (match k with
        | .eq => ab_c2 (fun x y => if x = y then a else pc + len) ll st c s g
        | .ne => ab_c2 (fun x y => if x = y then pc + len else a) ll st c s g
        | .lt => ab_c2 (fun x y => if x < y then a else pc + len) ll st c s g
        | .ge => ab_c2 (fun x y => if x < y then pc + len else a) ll st c s g
        | .gt => ab_c2 (fun x y => if y < x then a else pc + len) ll st c s g
        | .le => ab_c2 (fun x y => if y < x then pc + len else a) ll st c s g)
      | .goto _ => ab_to a ll st c s g
      | .tableswitch _ _ _ _ => ab_c1 (fun x => ab_sw x cs a) ll st c s g
      | .lookupswitch _ _ => ab_c1 (fun x => ab_sw x cs a) ll st c s g
      | .dup => ab_du (pc + len) ll st c s g
      | .dup2 => ab_d2 (pc + len) ll st c s g
      | .pop => ab_po (pc + len) ll st c s g
      | .iaload => ab_ald ro 0 0 (pc + len) ll st c s g
      | .laload => ab_ald ro 1 1 (pc + len) ll st c s g
      | .baload => ab_ald ro 2 3 (pc + len) ll st c s g
      | .iastore => ab_ast 0 0 (pc + len) ll st c s g
      | .bastore => ab_ast 2 3 (pc + len) ll st c s g
      | .lastore => ab_lst (pc + len) ll st c s g
      | .arraylength => ab_len ro (pc + len) ll st c s g
      | .getfield _ => ab_gf a b v (pc + len) ll st c s g
      | .putfield _ => ab_pf a b v cs (pc + len) ll st c s g
      | .new _ => ab_nw mc ms a b (pc + len) ll st c s g
      | .newarray _ => ab_na mc ms a b (pc + len) ll st c s g
      | .invokevirtual _ => ab_ca mc ms a b v cs (pc + len) ll st c s g
      | .invokestatic _ => ab_is mc ms a b v cs (pc + len) ll st c s g
      | .invokespecial _ => ab_ip mc ms a b v cs (pc + len) ll st c s g
      | .ireturn => ab_ri mc ms b st c s g
      | .lreturn => ab_rj mc ms st c s g
      | .return_ => ab_rv mc ms st c s g
      | _ => none
def ab_run (call : Nat → List Value → ab_S → Option Value → ab_S → Prop) (ro : ab_E) (mc ms : Nat) (pg : Nat → Option ab_I) (sp : Nat → Bool) (Q : Option Value → ab_S → Prop) (X : ab_F → Prop) : Nat → ab_F → Prop
  | 0, _ => False
  | n + 1, f => match sp f.1 with
    | true => X f
    | false => match pg f.1 with
      | none => False
      | some e => match ab_step ro mc ms e f with
        | none => False
        | some (P, .inl f') => P ∧ ab_run call ro mc ms pg sp Q X n f'
        | some (P, .inr (.inl (r, g))) => P ∧ Q r g
        | some (P, .inr (.inr (k, as, pc, ll, st, c, s, g))) => P ∧ ∃ (r : Option Value) (g' : ab_S), call k as g r g' ∧ ab_run call ro mc ms pg sp Q X n (pc, ll, r.toList ++ st, c, s, g')
/-- a method: its rows, how many variables, cells and slots that it makes -/
abbrev ab_M : Type := (Nat → Option ab_I) × Nat × Nat × Nat
def ab_sem (ro : ab_E) (mt : Nat → Option ab_M) : Nat → Nat → List Value → ab_S → Option Value → ab_S → Prop
  | 0, _, _, _, _, _ => False
  | d + 1, k, as, g, r, g' => match mt k with
    | none => False
    | some (pg, nL, mc, ms) => Nat.ble (ab_ea as).length nL = true ∧ ∃ n, ab_run (ab_sem ro mt d) ro mc ms pg (fun _ => false) (fun r' h => r' = r ∧ h = g') (fun _ => False) n (0, ab_ent nL as, [], 0, 0, g)
