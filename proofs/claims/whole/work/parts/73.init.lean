/-! the constructors, run on a memory of lists -/
abbrev am_QL : Type := List (Nat × Nat) × List ((Nat × Nat) × Nat) × List ((Nat × Nat) × Int32)
def am_qm (t : am_QL) : am_M := (fun o k => (List.lookup (o, k) t.2.2).getD 0, fun _ _ => 0, fun o k => List.lookup (o, k) t.2.1, t.1)
def qOK (t : am_QL) : Prop := (∀ q ∈ t.2.1, q.1.1 < t.1.length) ∧ ∀ q ∈ t.2.2, q.1.1 < t.1.length
abbrev in_A : Type := (Nat × am_L × List Value × am_QL) ⊕ ((Option Value × am_QL) ⊕ (Nat × List Value × List Value × Nat))
def in_li (a : in_A) : am_A := match a with
  | .inl q => .inl (q.1, q.2.1, q.2.2.1, am_qm q.2.2.2)
  | .inr (.inl q) => .inr (.inl (q.1, am_qm q.2))
  | .inr (.inr q) => .inr (.inr q)
def in_gd (a : in_A) : Prop := match a with
  | .inl q => qOK q.2.2.2
  | .inr (.inl q) => qOK q.2
  | .inr (.inr _) => True
def in_n (pc : Nat) (L : am_L) (st : List Value) (t : am_QL) : Option in_A := some (.inl (pc, L, st, t))
def in_nL (pc : Nat) (L : Option am_L) (st : List Value) (t : am_QL) : Option in_A := match L with
  | some L => some (.inl (pc, L, st, t))
  | none => none
def in_step (g bz : Bool) (ins : Instr) (x : List Nat) (pc : Nat) (L : am_L) (st : List Value) (t : am_QL) : Option in_A := match ins with
  | .iconst n => in_n (pc + 1) L (.int (Int32.ofInt n) :: st) t
  | .bipush n => in_n (pc + 2) L (.int (Int8.ofInt n).toInt32 :: st) t
  | .sipush n => in_n (pc + 3) L (.int (Int16.ofInt n).toInt32 :: st) t
  | .iload_n k => match am_get L k with
    | some (.int v) => in_n (pc + 1) L (.int v :: st) t
    | _ => none
  | .aload_n k => match am_get L k with
    | some (.ref v) => in_n (pc + 1) L (.ref v :: st) t
    | _ => none
  | .istore_n k => match st with
    | .int v :: r => in_nL (pc + 1) (am_set g L k (.int v)) r t
    | _ => none
  | .iinc k n => match am_get L k with
    | some (.int v) => in_nL (pc + 3) (am_set g L k (.int (v + Int32.ofInt n))) st t
    | _ => none
  | .dup => match st with
    | v :: r => if am_isV v then in_n (pc + 1) L (v :: v :: r) t else none
    | _ => none
  | .goto _ => match x with
    | [p] => in_n p L st t
    | _ => none
  | .if_icmp c _ => match x, st with
    | [p], .int b :: .int a :: r => match c with
      | .ge => if b ≤ a then in_n p L r t else in_n (pc + 3) L r t
      | _ => none
    | _, _ => none
  | .aastore => match x, st with
    | [c, ci], .ref v :: .int i :: .ref o :: r => if Nat.blt o t.1.length && (am_ix (am_qm t) c o i && Nat.beq (am_kd (am_qm t) v) ci) then in_n (pc + 1) L r (t.1, ((o, i.toNatClampNeg), v) :: t.2.1, t.2.2) else none
    | _, _ => none
  | .getfield _ => match x, st with
    | [ci, k, 3, _], .ref o :: r => if am_kd (am_qm t) o = ci then in_n (pc + 3) L (va_rf (am_R (am_qm t) o k) :: r) t else none
    | _, _ => none
  | .putfield _ => match x, st with
    | [ci, k, 0, _], .int v :: .ref o :: r => if Nat.blt o t.1.length && decide (am_kd (am_qm t) o = ci) then in_n (pc + 3) L r (t.1, t.2.1, ((o, k), v) :: t.2.2) else none
    | [ci, k, 3, _], .ref v :: .ref o :: r => if Nat.blt o t.1.length && decide (am_kd (am_qm t) o = ci) then in_n (pc + 3) L r (t.1, ((o, k), v) :: t.2.1, t.2.2) else none
    | _, _ => none
  | .new _ => match x with
    | [ci, n, _] => in_n (pc + 3) L (.ref t.1.length :: st) (t.1 ++ [(ci, n)], t.2)
    | _ => none
  | .newarray _ => match x, st with
    | [c], .int n :: r => if !decide (n < 0) && Nat.blt n.toNatClampNeg 1000 then in_n (pc + 2) L (.ref t.1.length :: r) (t.1 ++ [(c, n.toNatClampNeg)], t.2) else none
    | _, _ => none
  | .anewarray _ => match x, st with
    | [c, _], .int n :: r => if !decide (n < 0) && Nat.blt n.toNatClampNeg 1000 then in_n (pc + 3) L (.ref t.1.length :: r) (t.1 ++ [(c, n.toNatClampNeg)], t.2) else none
    | _, _ => none
  | .multianewarray _ _ => match x, st with
    | [_], .int m :: .int n :: r => if m = 4 ∧ n = 4 then in_n (pc + 4) L (.ref t.1.length :: r) (t.1 ++ [(25, 4)] ++ [(20, 4)] ++ [(20, 4)] ++ [(20, 4)] ++ [(20, 4)], ((t.1.length, 0), t.1.length + 1 + 0) :: ((t.1.length, 1), t.1.length + 1 + 1) :: ((t.1.length, 2), t.1.length + 1 + 2) :: ((t.1.length, 3), t.1.length + 1 + 3) :: t.2.1, t.2.2) else none
    | _, _ => none
  | .invokespecial _ => match x, st with
    | [0, _], .ref _ :: r => if Nat.ble r.length 4 = true then in_n (pc + 3) L r t else none
    | [_, z, n, _], st => match (st.take n).reverse, st.drop n with
      | as, .ref o :: r => if Nat.ble r.length 4 = true ∧ as.length = n then some (.inr (.inr (z, .ref o :: as, r, pc + 3))) else none
      | _, _ => none
    | _, _ => none
  | .return_ => match st with
    | [] => some (.inr (.inl (none, t)))
    | _ => none
  | _ => none
theorem lookup_no {α : Type} {o k n : Nat} : ∀ {l : List ((Nat × Nat) × α)}, (∀ q ∈ l, q.1.1 < n) → n ≤ o → List.lookup (o, k) l = none
  | [], _, _ => rfl
  | ((a, b), v) :: l, h, ho => by
    have h1 := h ((a, b), v) List.mem_cons_self
    dsimp only at h1
    rw [List.lookup_cons]
    have hb : ((o, k) == (a, b)) = false := by
      rw [beq_eq_false_iff_ne]
      intro e
      cases e
      omega
    rw [hb]
    exact lookup_no (fun q hq => h q (List.mem_cons_of_mem _ hq)) ho
theorem lookup_c {α : Type} {o k a b : Nat} {v : α} {l : List ((Nat × Nat) × α)} : List.lookup (o, k) (((a, b), v) :: l) = if o = a ∧ k = b then some v else List.lookup (o, k) l := by
  rw [List.lookup_cons]
  by_cases h : o = a ∧ k = b
  · rw [if_pos h, h.1, h.2, beq_self_eq_true]
  · rw [if_neg h]
    have hb : ((o, k) == (a, b)) = false := by
      rw [beq_eq_false_iff_ne]
      intro e
      cases e
      exact h ⟨rfl, rfl⟩
    rw [hb]
theorem am_q_new {t : am_QL} (h : qOK t) (c n : Nat) : am_new (am_qm t) c n = am_qm (t.1 ++ [(c, n)], t.2) ∧ qOK (t.1 ++ [(c, n)], t.2) := by
  constructor
  · have e1 : am_z (am_qm t).1 t.1.length 0 = (am_qm t).1 := by
      funext a b
      show (if a = t.1.length then 0 else (List.lookup (a, b) t.2.2).getD 0) = (List.lookup (a, b) t.2.2).getD 0
      by_cases e : a = t.1.length
      · rw [if_pos e, lookup_no h.2 (by omega)]; rfl
      · rw [if_neg e]
    have e2 : am_z (am_qm t).2.1 t.1.length 0 = (am_qm t).2.1 := by
      funext a b
      show (if a = t.1.length then (0 : Int64) else 0) = 0
      rw [ite_self]
    have e3 : am_z (am_qm t).2.2.1 t.1.length none = (am_qm t).2.2.1 := by
      funext a b
      show (if a = t.1.length then none else List.lookup (a, b) t.2.1) = List.lookup (a, b) t.2.1
      by_cases e : a = t.1.length
      · rw [if_pos e, lookup_no h.1 (by omega)]
      · rw [if_neg e]
    show (am_z (am_qm t).1 t.1.length 0, am_z (am_qm t).2.1 t.1.length 0, am_z (am_qm t).2.2.1 t.1.length none, t.1 ++ [(c, n)]) = _
    rw [e1, e2, e3]
    rfl
  · refine ⟨fun q hq => ?_, fun q hq => ?_⟩
    · have := h.1 q hq
      show q.1.1 < (t.1 ++ [(c, n)]).length
      rw [List.length_append]; exact Nat.lt_of_lt_of_le this (Nat.le_add_right _ _)
    · have := h.2 q hq
      show q.1.1 < (t.1 ++ [(c, n)]).length
      rw [List.length_append]; exact Nat.lt_of_lt_of_le this (Nat.le_add_right _ _)
theorem am_q_wR {t : am_QL} (h : qOK t) {o k v : Nat} (ho : o < t.1.length) : am_wR (am_qm t) o k (some v) = am_qm (t.1, ((o, k), v) :: t.2.1, t.2.2) ∧ qOK (t.1, ((o, k), v) :: t.2.1, t.2.2) := by
  constructor
  · have e3 : am_u (am_qm t).2.2.1 o k (some v) = fun a b => List.lookup (a, b) (((o, k), v) :: t.2.1) := by
      funext a b
      rw [lookup_c]
      rfl
    show ((am_qm t).1, (am_qm t).2.1, am_u (am_qm t).2.2.1 o k (some v), t.1) = _
    rw [e3]
    rfl
  · refine ⟨fun q hq => ?_, h.2⟩
    rcases List.mem_cons.mp hq with e | e
    · rw [e]; exact ho
    · exact h.1 q e
theorem am_q_wI {t : am_QL} (h : qOK t) {o k : Nat} {v : Int32} (ho : o < t.1.length) : am_wI (am_qm t) o k v = am_qm (t.1, t.2.1, ((o, k), v) :: t.2.2) ∧ qOK (t.1, t.2.1, ((o, k), v) :: t.2.2) := by
  constructor
  · have e3 : am_u (am_qm t).1 o k v = fun a b => (List.lookup (a, b) (((o, k), v) :: t.2.2)).getD 0 := by
      funext a b
      rw [lookup_c]
      show (if a = o ∧ b = k then v else (List.lookup (a, b) t.2.2).getD 0) = _
      by_cases e : a = o ∧ b = k
      · rw [if_pos e, if_pos e]; rfl
      · rw [if_neg e, if_neg e]
    show (am_u (am_qm t).1 o k v, (am_qm t).2.1, (am_qm t).2.2.1, t.1) = _
    rw [e3]
    rfl
  · refine ⟨h.1, fun q hq => ?_⟩
    rcases List.mem_cons.mp hq with e | e
    · rw [e]; exact ho
    · exact h.2 q e
theorem am_q_rows {t : am_QL} (h : qOK t) : am_rows (am_new2 (am_new (am_qm t) 25 4) 4) (am_S (am_qm t)).length = am_qm (t.1 ++ [(25, 4)] ++ [(20, 4)] ++ [(20, 4)] ++ [(20, 4)] ++ [(20, 4)], ((t.1.length, 0), t.1.length + 1 + 0) :: ((t.1.length, 1), t.1.length + 1 + 1) :: ((t.1.length, 2), t.1.length + 1 + 2) :: ((t.1.length, 3), t.1.length + 1 + 3) :: t.2.1, t.2.2) ∧ qOK (t.1 ++ [(25, 4)] ++ [(20, 4)] ++ [(20, 4)] ++ [(20, 4)] ++ [(20, 4)], ((t.1.length, 0), t.1.length + 1 + 0) :: ((t.1.length, 1), t.1.length + 1 + 1) :: ((t.1.length, 2), t.1.length + 1 + 2) :: ((t.1.length, 3), t.1.length + 1 + 3) :: t.2.1, t.2.2) := by
  obtain ⟨a1, h1⟩ := am_q_new h 25 4
  obtain ⟨a2, h2⟩ := am_q_new h1 20 4
  obtain ⟨a3, h3⟩ := am_q_new h2 20 4
  obtain ⟨a4, h4⟩ := am_q_new h3 20 4
  obtain ⟨a5, h5⟩ := am_q_new h4 20 4
  have e : am_new2 (am_new (am_qm t) 25 4) 4 = am_qm (t.1 ++ [(25, 4)] ++ [(20, 4)] ++ [(20, 4)] ++ [(20, 4)] ++ [(20, 4)], t.2) := by
    show am_new (am_new (am_new (am_new (am_new (am_qm t) 25 4) 20 4) 20 4) 20 4) 20 4 = _
    rw [a1, a2, a3, a4, a5]
  constructor
  · rw [e]
    have e3 : (fun a k => if a = t.1.length ∧ k < 4 then some (t.1.length + 1 + k) else List.lookup (a, k) t.2.1) = fun a k => List.lookup (a, k) (((t.1.length, 0), t.1.length + 1 + 0) :: ((t.1.length, 1), t.1.length + 1 + 1) :: ((t.1.length, 2), t.1.length + 1 + 2) :: ((t.1.length, 3), t.1.length + 1 + 3) :: t.2.1) := by
      funext a k
      rw [lookup_c, lookup_c, lookup_c, lookup_c]
      by_cases ea : a = t.1.length
      · by_cases k0 : k = 0
        · rw [if_pos ⟨ea, by omega⟩, if_pos ⟨ea, k0⟩, k0]
        · by_cases k1 : k = 1
          · rw [if_pos ⟨ea, by omega⟩, if_neg (fun q => k0 q.2), if_pos ⟨ea, k1⟩, k1]
          · by_cases k2 : k = 2
            · rw [if_pos ⟨ea, by omega⟩, if_neg (fun q => k0 q.2), if_neg (fun q => k1 q.2), if_pos ⟨ea, k2⟩, k2]
            · by_cases k3 : k = 3
              · rw [if_pos ⟨ea, by omega⟩, if_neg (fun q => k0 q.2), if_neg (fun q => k1 q.2), if_neg (fun q => k2 q.2), if_pos ⟨ea, k3⟩, k3]
              · rw [if_neg (by omega), if_neg (fun q => k0 q.2), if_neg (fun q => k1 q.2), if_neg (fun q => k2 q.2), if_neg (fun q => k3 q.2)]
      · rw [if_neg (fun q => ea q.1), if_neg (fun q => ea q.1), if_neg (fun q => ea q.1), if_neg (fun q => ea q.1), if_neg (fun q => ea q.1)]
    have e4 : am_rows (am_qm (t.1 ++ [(25, 4)] ++ [(20, 4)] ++ [(20, 4)] ++ [(20, 4)] ++ [(20, 4)], t.2)) (am_S (am_qm t)).length = ((am_qm t).1, (am_qm t).2.1, (fun a k => if a = t.1.length ∧ k < 4 then some (t.1.length + 1 + k) else List.lookup (a, k) t.2.1), t.1 ++ [(25, 4)] ++ [(20, 4)] ++ [(20, 4)] ++ [(20, 4)] ++ [(20, 4)]) := rfl
    rw [e4, e3]
    rfl
  · have hl : (t.1 ++ [(25, 4)] ++ [(20, 4)] ++ [(20, 4)] ++ [(20, 4)] ++ [(20, 4)]).length = t.1.length + 5 := by simp
    refine ⟨fun q hq => ?_, h5.2⟩
    rcases List.mem_cons.mp hq with e | hq
    · rw [e]; show t.1.length < _; rw [hl]; omega
    rcases List.mem_cons.mp hq with e | hq
    · rw [e]; show t.1.length < _; rw [hl]; omega
    rcases List.mem_cons.mp hq with e | hq
    · rw [e]; show t.1.length < _; rw [hl]; omega
    rcases List.mem_cons.mp hq with e | hq
    · rw [e]; show t.1.length < _; rw [hl]; omega
    · exact h5.1 q hq
theorem blt_lt {a b : Nat} (h : Nat.blt a b = true) : a < b := Nat.le_of_ble_eq_true h
set_option maxHeartbeats 4000000 in
theorem in_ok {X : am_X} {y : Nat} {g bz : Bool} {ins : Instr} {x : List Nat} {pc : Nat} {L : am_L} {st : List Value} {t : am_QL} {a : in_A} (ht : qOK t) (h : in_step g bz ins x pc L st t = some a) : am_step X y g bz ins x pc L st (am_qm t) = some (in_li a) ∧ in_gd a := by
  cases ins with
  | iconst n => cases h; exact ⟨rfl, ht⟩
  | bipush n => cases h; exact ⟨rfl, ht⟩
  | sipush n => cases h; exact ⟨rfl, ht⟩
  | iload_n k =>
    dsimp only [in_step] at h
    split at h
    · rename_i v hv
      cases h
      refine ⟨?_, ht⟩
      dsimp only [am_step]
      rw [hv]
      rfl
    · cases h
  | aload_n k =>
    dsimp only [in_step] at h
    split at h
    · rename_i v hv
      cases h
      refine ⟨?_, ht⟩
      dsimp only [am_step]
      rw [hv]
      rfl
    · cases h
  | istore_n k =>
    dsimp only [in_step] at h
    split at h
    · rename_i v r
      cases hs : am_set g L k (.int v) with
      | none => rw [hs] at h; cases h
      | some L' =>
        rw [hs] at h
        cases h
        refine ⟨?_, ht⟩
        dsimp only [am_step]
        rw [hs]
        rfl
    · cases h
  | iinc k n =>
    dsimp only [in_step] at h
    split at h
    · rename_i v hv
      cases hs : am_set g L k (.int (v + Int32.ofInt n)) with
      | none => rw [hs] at h; cases h
      | some L' =>
        rw [hs] at h
        cases h
        refine ⟨?_, ht⟩
        dsimp only [am_step]
        rw [hv]
        dsimp only
        rw [hs]
        rfl
    · cases h
  | dup =>
    dsimp only [in_step] at h
    split at h
    · split at h
      · rename_i hv
        cases h
        refine ⟨?_, ht⟩
        dsimp only [am_step]
        rw [if_pos hv]
        rfl
      · cases h
    · cases h
  | goto n =>
    dsimp only [in_step] at h
    split at h
    · cases h; exact ⟨rfl, ht⟩
    · cases h
  | if_icmp c n =>
    dsimp only [in_step] at h
    split at h
    · split at h
      · split at h
        · rename_i hv
          cases h
          refine ⟨?_, ht⟩
          dsimp only [am_step]
          rw [if_pos hv]
          rfl
        · rename_i hv
          cases h
          refine ⟨?_, ht⟩
          dsimp only [am_step]
          rw [if_neg hv]
          rfl
      · cases h
    · cases h
  | aastore =>
    dsimp only [in_step] at h
    split at h
    · split at h
      · rename_i hv
        rw [Bool.and_eq_true] at hv
        cases h
        obtain ⟨e, k⟩ := am_q_wR (k := Int32.toNatClampNeg ‹Int32›) (v := ‹Nat›) ht (blt_lt hv.1)
        refine ⟨?_, ?_⟩
        · dsimp only [am_step]
          rw [if_pos hv.2]
          rw [(am_q_wR ht (blt_lt hv.1)).1]
          rfl
        · exact (am_q_wR ht (blt_lt hv.1)).2
      · cases h
    · cases h
  | getfield n =>
    dsimp only [in_step] at h
    split at h
    · split at h
      · rename_i hv
        cases h
        refine ⟨?_, ht⟩
        dsimp only [am_step]
        rw [if_pos hv]
        rfl
      · cases h
    · cases h
  | putfield n =>
    dsimp only [in_step] at h
    split at h
    · split at h
      · rename_i hv
        rw [Bool.and_eq_true, decide_eq_true_eq] at hv
        cases h
        refine ⟨?_, (am_q_wI ht (blt_lt hv.1)).2⟩
        dsimp only [am_step]
        refine Eq.trans (if_pos hv.2) ?_
        rw [(am_q_wI ht (blt_lt hv.1)).1]
        rfl
      · cases h
    · split at h
      · rename_i hv
        rw [Bool.and_eq_true, decide_eq_true_eq] at hv
        cases h
        refine ⟨?_, (am_q_wR ht (blt_lt hv.1)).2⟩
        dsimp only [am_step]
        refine Eq.trans (if_pos hv.2) ?_
        rw [(am_q_wR ht (blt_lt hv.1)).1]
        rfl
      · cases h
    · cases h
  | new n =>
    dsimp only [in_step] at h
    split at h
    · cases h
      refine ⟨?_, (am_q_new ht _ _).2⟩
      dsimp only [am_step]
      rw [(am_q_new ht _ _).1]
      rfl
    · cases h
  | newarray n =>
    dsimp only [in_step] at h
    split at h
    · split at h
      · rename_i hv
        cases h
        refine ⟨?_, (am_q_new ht _ _).2⟩
        dsimp only [am_step]
        rw [if_pos hv, (am_q_new ht _ _).1]
        rfl
      · cases h
    · cases h
  | anewarray n =>
    dsimp only [in_step] at h
    split at h
    · split at h
      · rename_i hv
        cases h
        refine ⟨?_, (am_q_new ht _ _).2⟩
        dsimp only [am_step]
        rw [if_pos hv, (am_q_new ht _ _).1]
        rfl
      · cases h
    · cases h
  | multianewarray n k =>
    dsimp only [in_step] at h
    split at h
    · split at h
      · rename_i hv
        cases h
        refine ⟨?_, (am_q_rows ht).2⟩
        dsimp only [am_step]
        rw [if_pos hv, (am_q_rows ht).1]
        rfl
      · cases h
    · cases h
  | invokespecial n =>
    dsimp only [in_step] at h
    split at h
    · split at h
      · rename_i hv
        cases h
        refine ⟨?_, ht⟩
        dsimp only [am_step]
        refine Eq.trans (if_pos hv) ?_
        rfl
      · cases h
    · split at h
      · rename_i hd
        split at h
        · rename_i hv
          cases h
          refine ⟨?_, trivial⟩
          rename_i a z1 n1 b x1 x2 o1 r1
          have e : ∀ q : Nat, am_step X y g bz (.invokespecial n) [q, z1, n1, b] pc L st (am_qm t) = (match (st.take n1).reverse, st.drop n1 with
            | as, .ref o :: r => if Nat.ble r.length 4 = true ∧ as.length = n1 then am_call z1 (.ref o :: as) r (pc + 3) else none
            | _, _ => none) := fun q => by
            cases q <;> rfl
          rw [e, hd]
          dsimp only
          rw [if_pos hv]
          rfl
        · cases h
      · cases h
    · cases h
  | return_ =>
    dsimp only [in_step] at h
    split at h
    · cases h; exact ⟨rfl, ht⟩
    · cases h
  | _ => cases h
