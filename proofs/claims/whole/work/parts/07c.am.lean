/-! THE ABSTRACT MACHINE: a memory of typed slots, objects by number, one step an instruction of the real code. Its runs are runs of the real machine (part 'sim'); everything else is said of it. -/
abbrev am_M : Type := (Nat → Nat → Int32) × (Nat → Nat → Int64) × (Nat → Nat → Option Nat) × List (Nat × Nat)
abbrev am_L : Type := List (Option Value)
abbrev am_X : Type := (Nat → Int32) × Nat
abbrev am_A : Type := (Nat × am_L × List Value × am_M) ⊕ ((Option Value × am_M) ⊕ (Nat × List Value × List Value × Nat))
def am_I (σ : am_M) (o k : Nat) : Int32 := σ.1 o k
def am_J (σ : am_M) (o k : Nat) : Int64 := σ.2.1 o k
def am_R (σ : am_M) (o k : Nat) : Option Nat := σ.2.2.1 o k
def am_S (σ : am_M) : List (Nat × Nat) := σ.2.2.2
def am_kd (σ : am_M) (o : Nat) : Nat := ((am_S σ)[o]?.getD (99, 0)).1
def am_ln (σ : am_M) (o : Nat) : Nat := ((am_S σ)[o]?.getD (99, 0)).2
def am_u {α : Type} (f : Nat → Nat → α) (o k : Nat) (v : α) : Nat → Nat → α := fun a b => if a = o ∧ b = k then v else f a b
def am_z {α : Type} (f : Nat → Nat → α) (o : Nat) (v : α) : Nat → Nat → α := fun a b => if a = o then v else f a b
def am_wI (σ : am_M) (o k : Nat) (v : Int32) : am_M := (am_u σ.1 o k v, σ.2)
def am_wJ (σ : am_M) (o k : Nat) (v : Int64) : am_M := (σ.1, am_u σ.2.1 o k v, σ.2.2)
def am_wR (σ : am_M) (o k : Nat) (v : Option Nat) : am_M := (σ.1, σ.2.1, am_u σ.2.2.1 o k v, σ.2.2.2)
def am_new (σ : am_M) (c n : Nat) : am_M := (am_z σ.1 (am_S σ).length 0, am_z σ.2.1 (am_S σ).length 0, am_z σ.2.2.1 (am_S σ).length none, am_S σ ++ [(c, n)])
def am_ix (σ : am_M) (c o : Nat) (i : Int32) : Bool := Nat.beq (am_kd σ o) c && (!decide (i < 0) && decide (i.toNatClampNeg < am_ln σ o))
def am_fv (σ : am_M) (t o k : Nat) : Value := match t with
  | 2 => .long (am_J σ o k)
  | 3 => va_rf (am_R σ o k)
  | _ => .int (am_I σ o k)
def am_get (L : am_L) (k : Nat) : Option Value := match L[k]? with
  | some (some v) => some v
  | _ => none
def am_lgv : Value → Bool
  | .long _ => true
  | .float _ => true
  | .double _ => false
  | .retAddr _ => true
  | _ => false
def am_pl (L : am_L) (k : Nat) : Bool := match am_get L (k - 1) with
  | some v => !am_lgv v
  | none => true
/-- a store of a value of one slot; g: whether longs may stand among the locals -/
def am_set (g : Bool) (L : am_L) (k : Nat) (v : Value) : Option am_L :=
  if Nat.blt k L.length && (!g || am_pl L k) then some (L.set k (some v)) else none
def am_set2 (g : Bool) (L : am_L) (k : Nat) (v : Value) : Option am_L :=
  if Nat.blt (k + 1) L.length && (g && am_pl L k) then some ((L.set k (some v)).set (k + 1) none) else none
def am_n (pc : Nat) (L : am_L) (st : List Value) (σ : am_M) : Option am_A := some (.inl (pc, L, st, σ))
def am_nL (pc : Nat) (L : Option am_L) (st : List Value) (σ : am_M) : Option am_A := match L with
  | some L => some (.inl (pc, L, st, σ))
  | none => none
def am_ret (v : Option Value) (σ : am_M) : Option am_A := some (.inr (.inl (v, σ)))
def am_call (z : Nat) (as rest : List Value) (pc : Nat) : Option am_A := some (.inr (.inr (z, as, rest, pc)))
def am_sw (x : Int32) (dflt : Nat) : List Nat → Nat
  | k :: t :: r => if x = Int32.ofNat k then t else am_sw x dflt r
  | _ => dflt
def am_cpy {α : Type} (f : Nat → Nat → α) (a b : Nat) (i j n : Nat) : Nat → Nat → α := fun o k => if o = b ∧ j ≤ k ∧ k < j + n then f a (i + (k - j)) else f o k
/-- new int[4][4] and its like: outer, then the rows -/
def am_new2 (σ : am_M) : Nat → am_M
  | 0 => σ
  | n + 1 => am_new (am_new2 σ n) 20 4
def am_rows (σ : am_M) (o : Nat) : am_M := (σ.1, σ.2.1, (fun a k => if a = o ∧ k < 4 then some (o + 1 + k) else σ.2.2.1 a k), σ.2.2.2)
def am_isV : Value → Bool
  | .int _ => true
  | .ref _ => true
  | .null => true
  | _ => false
/-- one instruction: X the script, y the method's number (0: the law's), g: longs among its locals, bz: it answers a boolean; x: what the tables say of the instruction -/
def am_step (X : am_X) (y : Nat) (g bz : Bool) (ins : Instr) (x : List Nat) (pc : Nat) (L : am_L) (st : List Value) (σ : am_M) : Option am_A :=
  match ins with
  | .iconst n => am_n (pc + 1) L (.int (Int32.ofInt n) :: st) σ
  | .bipush n => am_n (pc + 2) L (.int (Int8.ofInt n).toInt32 :: st) σ
  | .sipush n => am_n (pc + 3) L (.int (Int16.ofInt n).toInt32 :: st) σ
  | .lconst n => am_n (pc + 1) L (.long (Int64.ofNat n) :: st) σ
  | .aconst_null => am_n (pc + 1) L (.null :: st) σ
  | .ldc_w _ => match x with
    | [v, _] => am_n (pc + 3) L (.int (Int32.ofNat v) :: st) σ
    | _ => none
  | .ldc2_w _ => match x with
    | [0, v, _] => am_n (pc + 3) L (.long (Int64.ofNat v) :: st) σ
    | [1, v, _] => am_n (pc + 3) L (.long (- Int64.ofNat v) :: st) σ
    | _ => none
  | .iload_n k => match am_get L k with
    | some (.int v) => am_n (pc + 1) L (.int v :: st) σ
    | _ => none
  | .iload k => match am_get L k with
    | some (.int v) => am_n (pc + 2) L (.int v :: st) σ
    | _ => none
  | .lload_n k => match am_get L k with
    | some (.long v) => am_n (pc + 1) L (.long v :: st) σ
    | _ => none
  | .lload k => match am_get L k with
    | some (.long v) => am_n (pc + 2) L (.long v :: st) σ
    | _ => none
  | .aload_n k => match am_get L k with
    | some (.ref v) => am_n (pc + 1) L (.ref v :: st) σ
    | some (.double v) => am_n (pc + 1) L (.double v :: st) σ
    | some .null => am_n (pc + 1) L (.null :: st) σ
    | _ => none
  | .aload k => match am_get L k with
    | some (.ref v) => am_n (pc + 2) L (.ref v :: st) σ
    | some .null => am_n (pc + 2) L (.null :: st) σ
    | _ => none
  | .istore_n k => match st with
    | .int v :: r => am_nL (pc + 1) (am_set g L k (.int v)) r σ
    | _ => none
  | .istore k => match st with
    | .int v :: r => am_nL (pc + 2) (am_set g L k (.int v)) r σ
    | _ => none
  | .lstore_n k => match st with
    | .long v :: r => am_nL (pc + 1) (am_set2 g L k (.long v)) r σ
    | _ => none
  | .lstore k => match st with
    | .long v :: r => am_nL (pc + 2) (am_set2 g L k (.long v)) r σ
    | _ => none
  | .astore_n k => match st with
    | .ref v :: r => am_nL (pc + 1) (am_set g L k (.ref v)) r σ
    | .null :: r => am_nL (pc + 1) (am_set g L k .null) r σ
    | _ => none
  | .astore k => match st with
    | .ref v :: r => am_nL (pc + 2) (am_set g L k (.ref v)) r σ
    | .null :: r => am_nL (pc + 2) (am_set g L k .null) r σ
    | _ => none
  | .iinc k n => match am_get L k with
    | some (.int v) => am_nL (pc + 3) (am_set g L k (.int (v + Int32.ofInt n))) st σ
    | _ => none
  | .pop => match st with
    | v :: r => if am_isV v then am_n (pc + 1) L r σ else none
    | _ => none
  | .dup => match st with
    | v :: r => if am_isV v then am_n (pc + 1) L (v :: v :: r) σ else none
    | _ => none
  | .dup2 => match st with
    | v :: w :: r => if am_isV v && am_isV w then am_n (pc + 1) L (v :: w :: v :: w :: r) σ else none
    | _ => none
  | .iadd => match st with
    | .int b :: .int a :: r => am_n (pc + 1) L (.int (a + b) :: r) σ
    | _ => none
  | .isub => match st with
    | .int b :: .int a :: r => am_n (pc + 1) L (.int (a - b) :: r) σ
    | _ => none
  | .imul => match st with
    | .int b :: .int a :: r => am_n (pc + 1) L (.int (a * b) :: r) σ
    | _ => none
  | .idiv => match st with
    | .int b :: .int a :: r => if b = 0 then none else am_n (pc + 1) L (.int (a / b) :: r) σ
    | _ => none
  | .irem => match st with
    | .int b :: .int a :: r => if b = 0 then none else am_n (pc + 1) L (.int (a - a / b * b) :: r) σ
    | _ => none
  | .ineg => match st with
    | .int a :: r => am_n (pc + 1) L (.int (-a) :: r) σ
    | _ => none
  | .iand => match st with
    | .int b :: .int a :: r => am_n (pc + 1) L (.int (a &&& b) :: r) σ
    | _ => none
  | .ior => match st with
    | .int b :: .int a :: r => am_n (pc + 1) L (.int (a ||| b) :: r) σ
    | _ => none
  | .ixor => match st with
    | .int b :: .int a :: r => am_n (pc + 1) L (.int (a ^^^ b) :: r) σ
    | _ => none
  | .ishl => match st with
    | .int b :: .int a :: r => am_n (pc + 1) L (.int (a <<< (b &&& 31)) :: r) σ
    | _ => none
  | .ishr => match st with
    | .int b :: .int a :: r => am_n (pc + 1) L (.int (a >>> (b &&& 31)) :: r) σ
    | _ => none
  | .iushr => match st with
    | .int b :: .int a :: r => am_n (pc + 1) L (.int (a.toUInt32 >>> (b.toUInt32 &&& Int32.toUInt32 31)).toInt32 :: r) σ
    | _ => none
  | .ladd => match st with
    | .long b :: .long a :: r => am_n (pc + 1) L (.long (a + b) :: r) σ
    | _ => none
  | .lmul => match st with
    | .long b :: .long a :: r => am_n (pc + 1) L (.long (a * b) :: r) σ
    | _ => none
  | .ldiv => match st with
    | .long b :: .long a :: r => if b = 0 then none else am_n (pc + 1) L (.long (a / b) :: r) σ
    | _ => none
  | .lrem => match st with
    | .long b :: .long a :: r => if b = 0 then none else am_n (pc + 1) L (.long (a - a / b * b) :: r) σ
    | _ => none
  | .land => match st with
    | .long b :: .long a :: r => am_n (pc + 1) L (.long (a &&& b) :: r) σ
    | _ => none
  | .lcmp => match st with
    | .long b :: .long a :: r => am_n (pc + 1) L (.int (lg_cmp a b) :: r) σ
    | _ => none
  | .i2l => match st with
    | .int a :: r => am_n (pc + 1) L (.long a.toInt64 :: r) σ
    | _ => none
  | .l2i => match st with
    | .long a :: r => am_n (pc + 1) L (.int a.toInt32 :: r) σ
    | _ => none
  | .i2b => match st with
    | .int a :: r => am_n (pc + 1) L (.int a.toInt8.toInt32 :: r) σ
    | _ => none
  | .goto _ => match x with
    | [t] => am_n t L st σ
    | _ => none
  | .ifCond c _ => match x, st with
    | [t], .int a :: r => match c with
      | .eq => if a = 0 then am_n t L r σ else am_n (pc + 3) L r σ
      | .ne => if a = 0 then am_n (pc + 3) L r σ else am_n t L r σ
      | .lt => if a < 0 then am_n t L r σ else am_n (pc + 3) L r σ
      | .ge => if 0 ≤ a then am_n t L r σ else am_n (pc + 3) L r σ
      | .gt => if 0 < a then am_n t L r σ else am_n (pc + 3) L r σ
      | .le => if a ≤ 0 then am_n t L r σ else am_n (pc + 3) L r σ
    | _, _ => none
  | .if_icmp c _ => match x, st with
    | [t], .int b :: .int a :: r => match c with
      | .eq => if a = b then am_n t L r σ else am_n (pc + 3) L r σ
      | .ne => if a = b then am_n (pc + 3) L r σ else am_n t L r σ
      | .lt => if a < b then am_n t L r σ else am_n (pc + 3) L r σ
      | .ge => if b ≤ a then am_n t L r σ else am_n (pc + 3) L r σ
      | .gt => if b < a then am_n t L r σ else am_n (pc + 3) L r σ
      | .le => if a ≤ b then am_n t L r σ else am_n (pc + 3) L r σ
    | _, _ => none
  | .ifnull _ => match x, st with
    | [t], .null :: r => am_n t L r σ
    | [_], .ref _ :: r => am_n (pc + 3) L r σ
    | _, _ => none
  | .ifnonnull _ => match x, st with
    | [_], .null :: r => am_n (pc + 3) L r σ
    | [t], .ref _ :: r => am_n t L r σ
    | _, _ => none
  | .tableswitch _ _ _ _ => match x, st with
    | d :: ts, .int a :: r => am_n (am_sw a d ts) L r σ
    | _, _ => none
  | .lookupswitch _ _ => match x, st with
    | d :: ts, .int a :: r => am_n (am_sw a d ts) L r σ
    | _, _ => none
  | .arraylength => match st with
    | .double _ :: r => if Nat.beq y 0 then am_n (pc + 1) L (.int (Int32.ofNat X.2) :: r) σ else none
    | _ => none
  | .iaload => match st with
    | .int i :: .ref o :: r => if am_ix σ 20 o i then am_n (pc + 1) L (.int (am_I σ o i.toNatClampNeg) :: r) σ else none
    | .int i :: .double _ :: r => if Nat.beq y 0 && (!decide (i < 0) && decide (i.toNatClampNeg < X.2)) then am_n (pc + 1) L (.int (X.1 i.toNatClampNeg) :: r) σ else none
    | _ => none
  | .baload => match x, st with
    | [c], .int i :: .ref o :: r => if (Nat.beq c 21 || Nat.beq c 22) && am_ix σ c o i then am_n (pc + 1) L (.int (am_I σ o i.toNatClampNeg) :: r) σ else none
    | _, _ => none
  | .aaload => match x, st with
    | [c], .int i :: .ref o :: r => if am_ix σ c o i then am_n (pc + 1) L (va_rf (am_R σ o i.toNatClampNeg) :: r) σ else none
    | _, _ => none
  | .iastore => match st with
    | .int v :: .int i :: .ref o :: r => if am_ix σ 20 o i then am_n (pc + 1) L r (am_wI σ o i.toNatClampNeg v) else none
    | _ => none
  | .bastore => match x, st with
    | [21], .int v :: .int i :: .ref o :: r => if am_ix σ 21 o i then am_n (pc + 1) L r (am_wI σ o i.toNatClampNeg (vp_nar .byte v)) else none
    | [22], .int v :: .int i :: .ref o :: r => if am_ix σ 22 o i then am_n (pc + 1) L r (am_wI σ o i.toNatClampNeg (vp_nar .boolean v)) else none
    | _, _ => none
  | .aastore => match x, st with
    | [c, ci], .ref v :: .int i :: .ref o :: r => if am_ix σ c o i && Nat.beq (am_kd σ v) ci then am_n (pc + 1) L r (am_wR σ o i.toNatClampNeg (some v)) else none
    | _, _ => none
  | .getfield _ => match x, st with
    | [ci, k, t, _], .ref o :: r => if am_kd σ o = ci then am_n (pc + 3) L (am_fv σ t o k :: r) σ else none
    | _, _ => none
  | .putfield _ => match x, st with
    | [ci, k, 0, _], .int v :: .ref o :: r => if am_kd σ o = ci then am_n (pc + 3) L r (am_wI σ o k v) else none
    | [ci, k, 1, _], .int v :: .ref o :: r => if am_kd σ o = ci ∧ (v = 0 ∨ v = 1) then am_n (pc + 3) L r (am_wI σ o k v) else none
    | [ci, k, 2, _], .long v :: .ref o :: r => if am_kd σ o = ci then am_n (pc + 3) L r (am_wJ σ o k v) else none
    | [ci, k, 3, _], .ref v :: .ref o :: r => if am_kd σ o = ci then am_n (pc + 3) L r (am_wR σ o k (some v)) else none
    | _, _ => none
  | .new _ => match x with
    | [ci, n, _] => am_n (pc + 3) L (.ref (am_S σ).length :: st) (am_new σ ci n)
    | _ => none
  | .newarray _ => match x, st with
    | [c], .int n :: r => if !decide (n < 0) && Nat.blt n.toNatClampNeg 1000 then am_n (pc + 2) L (.ref (am_S σ).length :: r) (am_new σ c n.toNatClampNeg) else none
    | _, _ => none
  | .anewarray _ => match x, st with
    | [c, _], .int n :: r => if !decide (n < 0) && Nat.blt n.toNatClampNeg 1000 then am_n (pc + 3) L (.ref (am_S σ).length :: r) (am_new σ c n.toNatClampNeg) else none
    | _, _ => none
  | .multianewarray _ _ => match x, st with
    | [_], .int m :: .int n :: r => if m = 4 ∧ n = 4 then am_n (pc + 4) L (.ref (am_S σ).length :: r) (am_rows (am_new2 (am_new σ 25 4) 4) (am_S σ).length) else none
    | _, _ => none
  | .invokevirtual _ => match x, st with
    | [z, n, ci, _], st => match (st.take n).reverse, st.drop n with
      | as, .ref o :: r => if am_kd σ o = ci ∧ Nat.ble r.length 4 = true ∧ as.length = n then am_call z (.ref o :: as) r (pc + 3) else none
      | _, _ => none
    | _, _ => none
  | .invokespecial _ => match x, st with
    | [0, _], .ref _ :: r => if Nat.ble r.length 4 = true then am_n (pc + 3) L r σ else none
    | [_, z, n, _], st => match (st.take n).reverse, st.drop n with
      | as, .ref o :: r => if Nat.ble r.length 4 = true ∧ as.length = n then am_call z (.ref o :: as) r (pc + 3) else none
      | _, _ => none
    | _, _ => none
  | .invokestatic _ => match x, st with
    | [c, _], .int n :: .int j :: .ref b :: .int i :: .ref a :: r => if Nat.ble r.length 4 = true ∧ am_kd σ a = c ∧ am_kd σ b = c ∧ (c = 20 ∨ (c = 22 ∧ (List.range n.toNatClampNeg).all (fun k => decide (am_I σ a (i.toNatClampNeg + k) = 0) || decide (am_I σ a (i.toNatClampNeg + k) = 1)) = true)) ∧ ¬ i < 0 ∧ ¬ j < 0 ∧ ¬ n < 0 ∧ i.toNatClampNeg + n.toNatClampNeg ≤ am_ln σ a ∧ j.toNatClampNeg + n.toNatClampNeg ≤ am_ln σ b then am_n (pc + 3) L r (am_cpy σ.1 a b i.toNatClampNeg j.toNatClampNeg n.toNatClampNeg, σ.2) else none
    | [_, z, n, _], st => if Nat.ble (st.drop n).length 4 = true ∧ (st.take n).length = n then am_call z (st.take n).reverse (st.drop n) (pc + 3) else none
    | _, _ => none
  | .ireturn => match st with
    | [.int v] => if bz then (if v = 0 ∨ v = 1 then am_ret (some (.int v)) σ else none) else am_ret (some (.int v)) σ
    | _ => none
  | .lreturn => match st with
    | [.long v] => am_ret (some (.long v)) σ
    | _ => none
  | .areturn => match st with
    | [.ref v] => am_ret (some (.ref v)) σ
    | [.null] => am_ret (some .null) σ
    | _ => none
  | .return_ => match st with
    | [] => am_ret none σ
    | _ => none
  | _ => none
