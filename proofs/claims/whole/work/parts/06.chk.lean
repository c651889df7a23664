/-! what is checked of the tables, by program: each row of the code against the decoder, each link against the statement's words -/
def am_len : Instr → Nat
  | .iconst _ => 1 | .bipush _ => 2 | .sipush _ => 3 | .lconst _ => 1 | .aconst_null => 1 | .ldc_w _ => 3 | .ldc2_w _ => 3
  | .iload_n _ => 1 | .iload _ => 2 | .lload_n _ => 1 | .lload _ => 2 | .aload_n _ => 1 | .aload _ => 2
  | .istore_n _ => 1 | .istore _ => 2 | .lstore_n _ => 1 | .lstore _ => 2 | .astore_n _ => 1 | .astore _ => 2 | .iinc _ _ => 3
  | .goto _ => 3 | .ifCond _ _ => 3 | .if_icmp _ _ => 3 | .ifnull _ => 3 | .ifnonnull _ => 3
  | .getfield _ => 3 | .putfield _ => 3 | .new _ => 3 | .newarray _ => 2 | .anewarray _ => 3 | .multianewarray _ _ => 4
  | .invokevirtual _ => 3 | .invokespecial _ => 3 | .invokestatic _ => 3
  | _ => 1
def am_isSw : Instr → Bool
  | .tableswitch _ _ _ _ => true
  | .lookupswitch _ _ => true
  | _ => false
def am_dec (bytes : ByteArray) (pc : Nat) (ins : Instr) : Bool := match decode bytes pc with
  | .ok (i, n) => decide (i = ins) && (am_isSw ins || Nat.beq n (am_len ins))
  | .error _ => false
def am_wd (p : Nat) (w : Cond) : Bool := decide (lw_tbl[p]? = some w) && goodWord w
def am_tc (d : String) : Nat := if d = "J" then 2 else if d = "I" then 0 else if d = "Z" then 0 else 3
def am_tp (d : String) (t : Nat) : Bool := match t with
  | 0 => decide (d = "I")
  | 1 => decide (d = "Z")
  | 2 => decide (d = "J")
  | _ => match parseFieldDescriptor d with
    | some (.object _) => true
    | some (.array _) => true
    | _ => false
def am_fl (own : String) (i ci k w : Nat) : Bool := match vwCl[ci]? with
  | some q => Nat.blt k q.2.2 && am_wd w (.fieldLink own i (q.2.1 k).1 (q.2.1 k).2.1 (q.2.1 k).2.2.1)
  | none => false
def am_dc (ci k : Nat) : String := match vwCl[ci]? with
  | some q => (q.2.1 k).2.2.1
  | none => ""
def am_fin (own nm : String) (ci k : Nat) : Bool := match vwCl[ci]? with
  | some q => !(q.2.1 k).2.2.2 || (decide (nm = "<init>") && decide ((q.2.1 k).1 = own))
  | none => false
def am_tsw (pc : Nat) (lo : Int) : List Int → List Nat → Bool
  | [], [] => true
  | o :: os, k :: t :: r => decide ((k : Int) = lo) && (decide ((pc : Int) + o = (t : Int)) && am_tsw pc (lo + 1) os r)
  | _, _ => false
def am_lsw (pc : Nat) : List (Int × Int) → List Nat → Bool
  | [], [] => true
  | (v, o) :: os, k :: t :: r => decide ((k : Int) = v) && (Nat.blt k 2000000000 && (decide ((pc : Int) + o = (t : Int)) && am_lsw pc os r))
  | _, _ => false
def am_np (r : am_Row) (n : Nat) : Bool := match parseMethodDescriptor r.1.desc with
  | some q => Nat.beq q.parameters.length n
  | none => false
def am_arr : ArrayType → Nat
  | .int => 20
  | .byte => 21
  | .boolean => 22
  | _ => 99
def am_chkI (own nm : String) (pc : Nat) (ins : Instr) (x : List Nat) : Bool := match ins with
  | .ldc_w i => match x with
    | [v, w] => am_wd w (.constant own i (Int32.ofNat v))
    | _ => true
  | .ldc2_w i => match x with
    | [0, v, w] => am_wd w (.constantLong own i (Int64.ofNat v))
    | [1, v, w] => am_wd w (.constantLong own i (- Int64.ofNat v))
    | _ => true
  | .goto o => match x with
    | [t] => decide ((pc : Int) + o = (t : Int))
    | _ => true
  | .ifCond _ o => match x with
    | [t] => decide ((pc : Int) + o = (t : Int))
    | _ => true
  | .if_icmp _ o => match x with
    | [t] => decide ((pc : Int) + o = (t : Int))
    | _ => true
  | .ifnull o => match x with
    | [t] => decide ((pc : Int) + o = (t : Int))
    | _ => true
  | .ifnonnull o => match x with
    | [t] => decide ((pc : Int) + o = (t : Int))
    | _ => true
  | .tableswitch d lo hi offs => match x with
    | t :: r => decide ((pc : Int) + d = (t : Int)) && (decide (0 ≤ lo) && (decide (hi < 2000000) && (decide (hi + 1 - lo = (offs.size : Int)) && am_tsw pc lo offs.toList r)))
    | _ => true
  | .lookupswitch d ps => match x with
    | t :: r => decide ((pc : Int) + d = (t : Int)) && (am_lsw pc ps.toList r && (ps.toList.zip (ps.toList.drop 1)).all (fun q => decide (q.1.1 < q.2.1)))
    | _ => true
  | .getfield i => match x with
    | [ci, k, t, w] => am_fl own i ci k w && Nat.beq t (am_tc (am_dc ci k))
    | _ => true
  | .putfield i => match x with
    | [ci, k, t, w] => am_fl own i ci k w && (am_tp (am_dc ci k) t && am_fin own nm ci k)
    | _ => true
  | .new i => match x with
    | [ci, n, w] => match vwCl[ci]? with
      | some q => Nat.beq q.2.2 n && am_wd w (.classLink own i q.1)
      | none => false
    | _ => true
  | .newarray t => match x with
    | [c] => Nat.beq c (am_arr t) && Nat.blt c 23
    | _ => true
  | .anewarray i => match x with
    | [23, w] => am_wd w (.classLink own i "SoundToll$Gate")
    | [24, w] => am_wd w (.classLink own i "SoundToll$Tune")
    | [_, _] => false
    | _ => true
  | .aaload => match x with
    | [c] => Nat.beq c 23 || (Nat.beq c 24 || Nat.beq c 25)
    | _ => true
  | .aastore => match x with
    | [c, ci] => (Nat.beq c 23 && Nat.beq ci 1) || (Nat.beq c 24 && Nat.beq ci 7)
    | _ => true
  | .multianewarray i d => match x with
    | [w] => Nat.beq d 2 && am_wd w (.classLink own i "[[I")
    | _ => true
  | .invokevirtual i => match x with
    | [z, n, ci, w] => match am_Ts[z]?, am_Ps[z]?, vwCl[ci]? with
      | some r, some p, some q => Nat.blt 0 z && (Nat.beq p.1 0 && (am_wd w (.methodLink own i r.1) && (am_np r n && decide (q.1 = r.1.cls))))
      | _, _, _ => false
    | _ => true
  | .invokespecial i => match x with
    | [_, w] => am_wd w (.methodLink own i objectInit)
    | [1, z, n, w] => match am_Ts[z]?, am_Ps[z]? with
      | some r, some p => Nat.blt 0 z && (Nat.beq p.1 1 && (am_wd w (.methodLink own i r.1) && am_np r n))
      | _, _ => false
    | [_, z, n, w] => match am_Ts[z]?, am_Ps[z]?, am_nest[w]? with
      | some r, some p, some q => Nat.blt 0 z && (Nat.beq p.1 1 && (am_np r n && decide (q = .methodLinkNest own i r.1 "SoundToll")))
      | _, _, _ => false
    | _ => true
  | .invokestatic i => match x with
    | [_, w] => am_wd w (.methodLink own i arraycopyName)
    | [4, z, n, w] => match am_Ts[z]?, am_Ps[z]? with
      | some r, some p => Nat.blt 0 z && (Nat.beq p.1 2 && (am_wd w (.methodLink own i r.1) && am_np r n))
      | _, _ => false
    | [_, z, n, w] => match am_Ts[z]?, am_Ps[z]?, am_nest[w]? with
      | some r, some p, some q => Nat.blt 0 z && (Nat.beq p.1 2 && (am_np r n && decide (q = .methodLinkNest own i r.1 "SoundToll")))
      | _, _, _ => false
    | _ => true
  | _ => true
def am_chkT (t : Option FieldType) (ins : Instr) : Bool := match ins with
  | .return_ => decide (t = none)
  | .ireturn => decide (t = some .int) || decide (t = some .boolean)
  | .lreturn => decide (t = some .long)
  | .areturn => match t with
    | some (.object _) => true
    | _ => false
  | _ => true
def am_chkR (r : am_Row) : Bool := r.2.2.2.2.2.2.all fun q => am_dec r.2.1 q.1 q.2.1 && (am_chkI r.1.cls r.1.name q.1 q.2.1 q.2.2 && am_chkT r.2.2.2.1 q.2.1)
/-- a method's own words -/
def am_chkM (r : am_Row) (p : Nat × List Nat) : Bool :=
  decide (r.1.cls ≠ "java/lang/invoke/MethodHandle") && (decide (r.1.cls ≠ "java/lang/invoke/VarHandle") && (plainFor r.1 && (Nat.ble r.2.2.1 20 && (decide (r.2.2.2.2.2.1 = decide (r.2.2.2.1 = some .boolean)) && (match p with
  | (0, [_, a, b, c]) => am_wd a (.instanceMethod r.1) && (am_wd b (.initialized r.1.cls) && (am_wd c (.selects r.1.cls r.1 r.1) && decide (r.1.name ≠ "<init>")))
  | (1, [_, a, b, _]) => am_wd a (.instanceMethod r.1) && (am_wd b (.initialized r.1.cls) && (decide (r.1.name = "<init>") && decide (r.2.2.2.1 = none)))
  | (2, [_, a, b, _]) => am_wd a (.static r.1) && am_wd b (.initialized r.1.cls)
  | _ => false)))))
def am_cd (r : am_Row) : Cond := .code r.1 r.2.1 r.2.2.1 r.2.2.2.1
