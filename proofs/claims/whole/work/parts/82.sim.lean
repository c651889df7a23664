/-! runs of the abstract machine are runs of the real one: contracts -/
theorem am_AOA_spec {ty : FieldType} {u : State} (h : am_AOA ty u) : ∃ comp c k, u.vm.findClass (FieldType.array ty).toString = some comp ∧ (u.vm.classes.findIdx? fun (x : Class) => match x.kind with | .array component _ => component == comp | _ => false) = some c ∧ u.vm.classes[c]? = some k ∧ k.kind = .array comp (.array ty) ∧ u.vm.findClass ("[" ++ (FieldType.array ty).toString) = some c := by
  unfold am_AOA Cond.before at h
  simp only [Cond.holds, Cond.value, beq_iff_eq] at h
  cases hc : u.vm.findClass (FieldType.array ty).toString with
  | none => simp [hc] at h
  | some comp =>
    simp only [hc, Option.bind_some, Option.bind_eq_some_iff, Option.map_eq_some_iff] at h
    obtain ⟨c, hi, k, hk, hb⟩ := h
    obtain ⟨hlt, hp, -⟩ := Array.findIdx?_eq_some_iff_getElem.mp hi
    have hkk : u.vm.classes[c] = k := (Array.getElem?_eq_some_iff.mp hk).2
    rw [hkk] at hp
    cases hkind : k.kind with
    | array component ty' =>
      rw [hkind] at hb hp
      simp at hb hp
      exact ⟨comp, c, k, rfl, hi, hk, by rw [hkind, hp, hb.1], hb.2⟩
    | _ => rw [hkind] at hb; simp at hb
theorem am_AOA_moved {ty : FieldType} {u U : State} (hvm : u.vm.Alike U.vm) (h : am_AOA ty u) : am_AOA ty U := by
  obtain ⟨comp, c, k, h1, h2, h3, h4, h5⟩ := am_AOA_spec h
  obtain ⟨k', hk', he⟩ := hvm.2.2 _ _ h3
  have hi : (U.vm.classes.findIdx? fun (x : Class) => match x.kind with | .array component _ => component == comp | _ => false) = some c := by
    have hb : U.vm.bare = u.vm.bare := by first | exact hvm.bare_eq | exact hvm.bare_eq.symm
    have e1 := va_idx_bare U.vm comp
    rw [hb] at e1
    exact e1.symm.trans ((va_idx_bare u.vm comp).trans h2)
  have hkind : k'.kind = .array comp (.array ty) := by rw [he]; exact h4
  have f1 : U.vm.findClass (FieldType.array ty).toString = some comp := by rw [hvm.findClass]; exact h1
  have f2 : U.vm.findClass ("[" ++ (FieldType.array ty).toString) = some c := by rw [hvm.findClass]; exact h5
  unfold am_AOA Cond.before Cond.holds
  simp only [Cond.value]
  rw [f1, Option.bind_some]
  refine (congrArg (fun o : Option Nat => (o.bind (fun c => (U.vm.classes[c]?).map fun (k : Class) => match k.kind with | .array _ t => decide (t = FieldType.array ty) && decide (U.vm.findClass ("[" ++ (FieldType.array ty).toString) = some c) | _ => false) == some true)) hi).trans ?_
  simp [hk', hkind, f2]
theorem am_nest_form : ∀ w ∈ am_nest, ∃ a i x h, w = .methodLinkNest a i x h := by
  intro w hw
  unfold am_nest at hw
  simp only [List.mem_cons, List.not_mem_nil, or_false] at hw
  rcases hw with h | h | h | h | h | h | h | h | h | h | h | h | h <;> exact ⟨_, _, _, _, h⟩
theorem am_Env_warm {D : va_G} {cy : Nat → ClassId} {s U : State} (hW : s.WarmedH U.vm) (h : am_Env D cy s) : am_Env D cy U := by
  obtain ⟨h1, h2, h3, h4, h5⟩ := h
  refine ⟨va_K.moved hW.alike h1, fun w hw => ?_, va_AO.moved hW.alike h3, va_AO.moved hW.alike h4, am_AOA_moved hW.alike h5⟩
  obtain ⟨a, i, x, g, rfl⟩ := am_nest_form w hw
  exact va_Nw.warmM hW (h2 _ hw)
theorem am_Env_same {D : va_G} {cy : Nat → ClassId} {s U : State} (hvm : s.vm = U.vm) (h : am_Env D cy s) : am_Env D cy U := by
  have ha : s.vm.Alike U.vm := by rw [hvm]; exact Vm.Alike.refl _
  obtain ⟨h1, h2, h3, h4, h5⟩ := h
  refine ⟨va_K.moved ha h1, fun w hw => ?_, va_AO.moved ha h3, va_AO.moved ha h4, am_AOA_moved ha h5⟩
  obtain ⟨a, i, x, g, rfl⟩ := am_nest_form w hw
  exact va_Nw.same rfl hvm (h2 _ hw)
/-- as the kit's Met.ofW, for a class with natives too -/
theorem am_ofW {l : Launch} {y : MethodName} {ws ws' : List Cond} {rm : Room} {Pc : Array Value → State → Prop} {Qc : Array Value → State → Outcome → State → Prop} {mc ms : Nat} {free : Addr → Prop} {cc : ByteArray} {maxL : Nat} {ret : Option FieldType}
    (hy : plainFor y = true) (hw : ws = Cond.code y cc maxL ret :: ws')
    (body : ∀ p e s m args below meth c s₁, BodyLoose p l y (headSpec ws rm) cc maxL ret e s m args below meth c s₁ → c.maxLocals = maxL → Pc args s →
      W p l e (headSpec ws rm).room s m args below meth c s.heap [] 0 0 (MQ below Qc args s mc ms free) (entryFrame m args maxL)) : Met l y ws rm Pc Qc mc ms free := by
  refine MetFree.of_bodySF (code := cc) (maxLocals := maxL) (ret := ret) hy ?_ ?_
  · intro args s m h hn
    obtain ⟨meth, c, h1, h2, h3, h4, h5, h6, -, -⟩ := Cond.code_spec hn (atoms_spec (ws := ws) h _ (by rw [hw]; exact List.mem_cons_self))
    exact ⟨meth, c, h1, h2, h3, h4, h5, h6⟩
  · intro p e s m args below meth c s₁ B hml hP _
    have hh0 : s₁.heap = s.heap := by rw [B.state]; rfl
    obtain ⟨t, a1, o, b1, b2, b3⟩ := body p e s m args below meth c s₁ B hml hP s₁ hh0 (Stand.of_body B)
    exact ⟨t, o, a1, b1, b2, ⟨b3.1, b3.2⟩⟩
/-- locals at a method's entry -/
theorem am_ll_args {b S0 : Nat} : ∀ (as : List Value) (i k : Nat), am_ll b S0 i (am_sl as ++ List.replicate k none) = lv_args i (as.map (am_cv b S0))
  | [], i, k => by
    show am_ll b S0 i (List.replicate k none) = []
    induction k generalizing i with
    | zero => rfl
    | succ k ih => exact ih (i + 1)
  | .long v :: r, i, k => congrArg ((i, Value.long v) :: ·) (am_ll_args r (i + 1 + 1) k)
  | .int v :: r, i, k => congrArg ((i, Value.int v) :: ·) (am_ll_args r (i + 1) k)
  | .float v :: r, i, k => congrArg ((i, Value.float v) :: ·) (am_ll_args r (i + 1) k)
  | .double v :: r, i, k => congrArg ((i, Value.ref b) :: ·) (am_ll_args r (i + 1) k)
  | .null :: r, i, k => congrArg ((i, Value.null) :: ·) (am_ll_args r (i + 1) k)
  | .ref v :: r, i, k => congrArg ((i, Value.ref (S0 + v)) :: ·) (am_ll_args r (i + 1) k)
  | .retAddr v :: r, i, k => congrArg ((i, Value.retAddr v) :: ·) (am_ll_args r (i + 1) k)
theorem am_sl_len {b S0 : Nat} : ∀ (as : List Value), (lg_sl (as.map (am_cv b S0))).length = (am_sl as).length
  | [] => rfl
  | .long v :: r => congrArg (· + 2) (am_sl_len r)
  | .int v :: r => congrArg (· + 1) (am_sl_len r)
  | .float v :: r => congrArg (· + 1) (am_sl_len r)
  | .double v :: r => congrArg (· + 1) (am_sl_len r)
  | .null :: r => congrArg (· + 1) (am_sl_len r)
  | .ref v :: r => congrArg (· + 1) (am_sl_len r)
  | .retAddr v :: r => congrArg (· + 1) (am_sl_len r)
theorem am_sl_mem : ∀ (as : List Value) (v : Value), some v ∈ am_sl as → v ∈ as
  | [], v, h => by cases h
  | .long w :: r, v, h => by
    rcases List.mem_cons.mp h with h | h
    · cases h; exact List.mem_cons_self
    · rcases List.mem_cons.mp h with h | h
      · cases h
      · exact List.mem_cons_of_mem _ (am_sl_mem r v h)
  | .int w :: r, v, h => by
    rcases List.mem_cons.mp h with h | h
    · cases h; exact List.mem_cons_self
    · exact List.mem_cons_of_mem _ (am_sl_mem r v h)
  | .float w :: r, v, h => by
    rcases List.mem_cons.mp h with h | h
    · cases h; exact List.mem_cons_self
    · exact List.mem_cons_of_mem _ (am_sl_mem r v h)
  | .double w :: r, v, h => by
    rcases List.mem_cons.mp h with h | h
    · cases h; exact List.mem_cons_self
    · exact List.mem_cons_of_mem _ (am_sl_mem r v h)
  | .null :: r, v, h => by
    rcases List.mem_cons.mp h with h | h
    · cases h; exact List.mem_cons_self
    · exact List.mem_cons_of_mem _ (am_sl_mem r v h)
  | .ref w :: r, v, h => by
    rcases List.mem_cons.mp h with h | h
    · cases h; exact List.mem_cons_self
    · exact List.mem_cons_of_mem _ (am_sl_mem r v h)
  | .retAddr w :: r, v, h => by
    rcases List.mem_cons.mp h with h | h
    · cases h; exact List.mem_cons_self
    · exact List.mem_cons_of_mem _ (am_sl_mem r v h)
theorem am_LR_entry {b S0 z : Nat} {as : List Value} {L : am_L} {rz : am_Row} (hz : am_Ts[z]? = some rz) (h : am_ent z as = some L) : am_LR b S0 rz.2.2.2.2.1 L rz.2.2.1 ((lg_sl (as.map (am_cv b S0)) ++ List.replicate (rz.2.2.1 - (lg_sl (as.map (am_cv b S0))).length) Slot.unset).toArray) := by
  unfold am_ent at h
  rw [hz] at h
  dsimp only at h
  split at h
  · rename_i hc
    cases h
    rw [Bool.and_eq_true, Bool.or_eq_true] at hc
    obtain ⟨hg, hl⟩ := hc
    have hl : (am_sl as).length ≤ rz.2.2.1 := Nat.le_of_ble_eq_true hl
    refine ⟨by rw [List.length_append, List.length_replicate]; omega, ?_, ?_⟩
    · rw [am_ll_args]
      exact lv_entry (as.map (am_cv b S0)) (by rw [am_sl_len]; exact hl)
    · intro hg0 v hv
      rcases List.mem_append.mp hv with hv | hv
      · rcases hg with hg | hg
        · rw [hg0] at hg
          cases hg
        · have := List.all_eq_true.mp hg v (am_sl_mem as v hv)
          simpa using this
      · have := List.eq_of_mem_replicate hv
        cases this
  · cases h
theorem am_run_len (X : am_X) : ∀ (n d y pc : Nat) (L : am_L) (st : List Value) (σ : am_M) (v : Option Value) (σ' : am_M), am_run X n d y pc L st σ = some (v, σ') → (am_S σ).length ≤ (am_S σ').length ∧ am_nS σ ≤ am_nS σ' := by
  intro n
  induction n with
  | zero => intro d y pc L st σ v σ' h; cases h
  | succ n ih =>
    intro d y pc L st σ v σ' h
    rw [am_run_succ] at h
    cases ha : am_at X y pc L st σ with
    | none => rw [ha] at h; cases h
    | some a =>
      rw [ha] at h
      unfold am_at at ha
      split at ha
      · have hp := am_step_post ha
        rcases a with q | q | q
        · have := ih _ _ _ _ _ _ _ _ h
          have h1 : (am_S σ).length ≤ (am_S q.2.2.2).length := hp.1
          have h2 : am_nS σ ≤ am_nS q.2.2.2 := hp.2
          omega
        · obtain ⟨-, -, h3⟩ := hp
          dsimp only at h
          cases h
          have h3 : σ' = σ := h3
          rw [h3]
          exact ⟨Nat.le_refl _, Nat.le_refl _⟩
        · cases d with
          | zero => cases h
          | succ d' =>
            dsimp only at h
            cases he : am_ent q.1 q.2.1 with
            | none => rw [he] at h; cases h
            | some L' =>
              rw [he] at h
              dsimp only at h
              cases hr : am_run X n d' q.1 0 L' [] σ with
              | none => rw [hr] at h; cases h
              | some w =>
                rw [hr] at h
                have h1 := ih _ _ _ _ _ _ _ _ hr
                have h2 := ih _ _ _ _ _ _ _ _ h
                omega
      · cases ha

/-! the contract of a call, and runs -/
def am_PW (X : am_X) (D : va_G) (cy : Nat → ClassId) (b S0 : Nat) (l : Launch) (n : Nat) : Prop :=
  ∀ (d y pc : Nat) (L : am_L) (st : List Value) (σ : am_M) (v : Option Value) (σ' : am_M) (r : am_Row), am_Ts[y]? = some r → am_run X n d y pc L st σ = some (v, σ') →
    ∀ (p : Program) (e : Env) (R : Room) (s : State) (m : MethodId) (args : Array Value) (below : List Frame) (meth : Method) (c : Code) (Q : State → Prop) (H : Heap) (locs : List Loc) (ls : Array Slot) (cells slots : Nat),
      am_C p s m args meth c D cy X b S0 y r → am_H D cy S0 σ H → va_S (fun q => S0 ≤ q) s.heap H locs → am_LR b S0 r.2.2.2.2.1 L r.2.2.1 ls → d + 1 ≤ R.frames ∧ 30 * d + 40 ≤ R.locals → S0 ≤ s.heap.size → s.heap.size + cells = S0 + (am_S σ).length →
      cells + (am_S σ').length ≤ R.cells + (am_S σ).length → slots + am_nS σ' ≤ R.slots + am_nS σ →
      (∀ (pcr : Nat) (ins : Instr) (H' : Heap) (locs' : List Loc) (ls' : Array Slot) (cells' slots' : Nat), am_dec r.2.1 pcr ins = true → am_chkT r.2.2.2.1 ins = true → am_retI r.2.2.2.2.2.1 ins v → am_H D cy S0 σ' H' → va_S (fun q => S0 ≤ q) s.heap H' locs' → s.heap.size + cells' = S0 + (am_S σ').length → slots' + am_nS σ = slots + am_nS σ' →
        W p l e R s m args below meth c H' locs' cells' slots' Q (F0 m pcr ls' (v.map (am_cv b S0)).toList)) →
      W p l e R s m args below meth c H locs cells slots Q (F0 m pc ls (st.map (am_cv b S0)))
def am_Qc (D : va_G) (cy : Nat → ClassId) (b S0 : Nat) (v : Option Value) (σ' : am_M) : Array Value → State → Outcome → State → Prop := fun _ st o t => o = .returned (v.map (am_cv b S0)) ∧ am_H D cy S0 σ' t.heap ∧ va_F (fun q => S0 ≤ q) st t
def am_Pc (D : va_G) (cy : Nat → ClassId) (b S0 : Nat) (as : List Value) (σ : am_M) : Array Value → State → Prop := va_Pc (as.map (am_cv b S0)) (fun U => am_H D cy S0 σ U.heap ∧ am_Env D cy U)
def am_rm (d mc ms : Nat) : Room := { frames := d + 1, cells := mc, slots := ms, locals := 30 * d + 40 }
theorem am_met {X : am_X} {D : va_G} {cy : Nat → ClassId} {b S0 : Nat} {l : Launch} {n : Nat} (ih : am_PW X D cy b S0 l n) {d z : Nat} {as : List Value} {L : am_L} {σ σ' : am_M} {v : Option Value} {rz : am_Row} (hz0 : 0 < z) (hz : am_Ts[z]? = some rz) (hplain : plainFor rz.1 = true) (hbz : rz.2.2.2.2.2.1 = decide (rz.2.2.2.1 = some .boolean)) (he : am_ent z as = some L) (hr : am_run X n d z 0 L [] σ = some (v, σ')) :
    Met l rz.1 (am_cd rz :: am_ws) (am_rm d ((am_S σ').length - (am_S σ).length) (am_nS σ' - am_nS σ)) (am_Pc D cy b S0 as σ) (am_Qc D cy b S0 v σ') ((am_S σ').length - (am_S σ).length) (am_nS σ' - am_nS σ) (fun q => S0 ≤ q) := by
  refine am_ofW (cc := rz.2.1) (maxL := rz.2.2.1) (ret := rz.2.2.2.1) hplain rfl ?_
  intro p e s m args below meth c s₁ B hml hv
  obtain ⟨rfl, hH, hE⟩ := hv
  have hlen := am_run_len X n d z 0 L [] σ v σ' hr
  have C : am_C p s m (as.map (am_cv b S0)).toArray meth c D cy X b S0 z rz := ⟨B.exec, B.bytes, B.returns, hml, findClass_of_methodNamed B.named, fun w hw => atoms_spec (ws := am_cd rz :: am_ws) B.pre w (List.mem_cons_of_mem _ hw), hE, B.notSynchronized, fun hn => (name_of_methodNamed B.named B.method).1.trans hn, fun h0 => absurd h0 (by omega)⟩
  have hlocks := B.notSynchronized
  rw [lg_entry_eq]
  refine ih d z 0 L [] σ v σ' rz hz hr p e _ s m _ below meth c _ s.heap [] _ 0 0 C hH va_S.rf (am_LR_entry hz he) ⟨Nat.le_refl _, Nat.le_refl _⟩ ?_ ?_ ?_ ?_ ?_
  · have := hH.2.1; omega
  · have := hH.2.1; omega
  · show 0 + _ ≤ ((am_S σ').length - (am_S σ).length) + _
    omega
  · show 0 + _ ≤ (am_nS σ' - am_nS σ) + _
    omega
  · intro pcr ins H' locs' ls' cells' slots' hd hT hret hH' hS' hc' hs'
    have e1 : cells' = (am_S σ').length - (am_S σ).length := by have := hH.2.1; omega
    have e2 : slots' = am_nS σ' - am_nS σ := by omega
    subst e1
    subst e2
    have hx := B.exec
    have hb := B.bytes
    have hrt := B.returns
    have hq : ∀ t : State, t.heap = H' → s.WarmedH t.vm → am_Qc D cy b S0 v σ' (as.map (am_cv b S0)).toArray s (.returned (v.map (am_cv b S0))) t := fun t ht _ => ⟨rfl, by rw [ht]; exact hH', hS'.F ht⟩
    match v, hret, hq with
    | none, hret, hq =>
      have hi : ins = .return_ := hret
      subst hi
      have hT : rz.2.2.2.1 = none := of_decide_eq_true hT
      exact W.vret hx hb (by rw [hrt, hT]) hq hS'.2.2 (am_dec_1 hd rfl rfl)
    | some (.int i), hret, hq =>
      obtain ⟨hi, hbool⟩ := hret
      subst hi
      simp only [am_chkT, Bool.or_eq_true, decide_eq_true_eq] at hT
      rcases hT with hT | hT
      · exact W.zret hx hb (by rw [hrt, hT]) rfl hq hS'.2.2 (am_dec_1 hd rfl rfl)
      · have hi := hbool (by rw [hbz, hT]; rfl)
        refine W.zret (ty := .boolean) hx hb (by rw [hrt, hT]) ?_ hq hS'.2.2 (am_dec_1 hd rfl rfl)
        rcases hi with rfl | rfl <;> decide +kernel
    | some (.long i), hret, hq =>
      have hi : ins = .lreturn := hret
      subst hi
      have hT : rz.2.2.2.1 = some .long := of_decide_eq_true hT
      exact W.lret hx hb (by rw [hrt, hT]) hq hS'.2.2 (am_dec_1 hd rfl rfl)
    | some (.ref i), hret, hq =>
      have hi : ins = .areturn := hret
      subst hi
      unfold am_chkT at hT
      dsimp only at hT
      split at hT
      · rename_i nm hnm
        exact W.aret hx hb (by rw [hrt, hnm]) (Or.inl ⟨_, rfl⟩) (Or.inr ⟨_, rfl⟩) hq hS'.2.2 (am_dec_1 hd rfl rfl)
      · cases hT
    | some .null, hret, hq =>
      have hi : ins = .areturn := hret
      subst hi
      unfold am_chkT at hT
      dsimp only at hT
      split at hT
      · rename_i nm hnm
        exact W.aret hx hb (by rw [hrt, hnm]) (Or.inl ⟨_, rfl⟩) (Or.inl rfl) hq hS'.2.2 (am_dec_1 hd rfl rfl)
      · cases hT
