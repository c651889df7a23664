/-! multianewarray: int[4][4] -/
theorem ma_new {E : CtlPost} {e : Env} {d : Bool} {acts : List Action} {s : State} {cA cc : ClassId} {k : Class} {ty : FieldType} {v : Value} {Q : Addr → Pre} (hk : s.vm.classes[cA]? = some k) (hkind : k.kind = .array cc ty) (h1 : ¬ 4 > e.platform.arrayLengthLimit) (h2 : ¬ 4 * componentBytes ty > e.platform.maxHeapBytes) (hf : fits ty v = true) (hd : v.isDefault = true) (hc : s.heap.size < e.platform.maxCells) (hs : s.slotsUsed + 4 ≤ e.platform.maxSlots) (hq : Q s.heap.size d acts (s.pushCell { cls := cA, slots := Array.replicate 4 v, vm := .none })) : wp (Jvm.newArray cA 4 v) Q E e d acts s := by
  have ha : allocActs (Array.replicate 4 v) s.heap.size acts = acts := by
    unfold allocActs
    rw [if_pos (by rw [Array.all_replicate]; simp [hd])]
  have hfit : ∀ i w, (Array.replicate 4 v)[i]? = some w → s.fitsSlot cA .none i w = true := by
    intro i w hw
    rw [Array.getElem?_replicate] at hw
    split at hw
    · cases hw
      simp [State.fitsSlot, State.slotType?, hk, hkind, hf]
    · cases hw
  simp only [Jvm.newArray, Jvm.arrayFits, wp_bind', W.ask, W.ite, h1, if_false, wp_pure', W.theClass, hk, hkind, h2, W.alloc, W.stop, Option.some.injEq, exists_eq_left', Array.size_replicate, ha]
  rw [if_neg (by omega)]
  exact ⟨hc, hs, hfit, hq⟩
section MNA
variable {p : Program} {l : Launch} {e : Env} {R : Room} {s : State} {m : MethodId} {args : Array Value} {below : List Frame} {meth : Method} {c : Code} {locs : List Loc} {cells slots : Nat}
def ma_I (p : Program) (l : Launch) (e : Env) (R : Room) (s : State) (m : MethodId) (args : Array Value) (below : List Frame) (meth : Method) (c : Code) (T : State) (locs : List Loc) (cells slots : Nat) (cA comp : ClassId) (i : Nat) (U : State) : Prop :=
  ∃ locs' : List Loc, Stand p l e R s m args below meth c U locs' (cells + 1 + i) (slots + 4 + 4 * i) ∧ U.vm = T.vm ∧ (∀ q ∈ locs', q ∈ locs ∨ q.base = T.heap.size) ∧ U.heap.size = T.heap.size + 1 + i ∧ (∀ q : Nat, q < T.heap.size → U.heap[q]? = T.heap[q]?) ∧ U.heap[T.heap.size]? = some (arrV cA 4 (fun j => if j < i then .ref (T.heap.size + 1 + j) else .null)) ∧ ∀ j, j < i → U.heap[T.heap.size + 1 + j]? = some (arrV comp 4 (fun _ => .int 0))
theorem ma_0 {T : State} {cA comp : ClassId} (X : Stand p l e R s m args below meth c T locs cells slots) : ma_I p l e R s m args below meth c T locs cells slots cA comp 0 (T.pushCell { cls := cA, slots := Array.replicate 4 .null, vm := .none }) := by
  have h := X.pushed { cls := cA, slots := Array.replicate 4 .null, vm := .none }
  refine ⟨locs, by simpa using h, rfl, fun q hq => Or.inl hq, ?_, fun q hq => State.heap_pushCell_of_lt _ _ hq, ?_, fun j hj => absurd hj (Nat.not_lt_zero _)⟩
  · show (T.heap.push _).size = _
    rw [Array.size_push]
  · rw [State.heap_pushCell_size, arrV_new]
    congr 2
theorem ma_s {T U : State} {cA comp : ClassId} {i : Nat} (hi : i < 4) (h : ma_I p l e R s m args below meth c T locs cells slots cA comp i U) : ma_I p l e R s m args below meth c T locs cells slots cA comp (i + 1) ((U.pushCell { cls := comp, slots := Array.replicate 4 (.int 0), vm := .none }).setCell T.heap.size ((arrV cA 4 (fun j => if j < i then .ref (T.heap.size + 1 + j) else .null)).setSlot i (.ref U.heap.size))) := by
  obtain ⟨locs', X, h1, h2, h3, h4, h5, h6⟩ := h
  have hp := X.pushed { cls := comp, slots := Array.replicate 4 (.int 0), vm := .none }
  have hlt : T.heap.size < U.heap.size := by omega
  have hcell : (U.pushCell { cls := comp, slots := Array.replicate 4 (.int 0), vm := .none }).heap[T.heap.size]? = some (arrV cA 4 (fun j => if j < i then .ref (T.heap.size + 1 + j) else .null)) := by
    rw [State.heap_pushCell_of_lt _ _ hlt]
    exact h5
  have hs := hp.stored hcell i (.ref U.heap.size)
  have hz : (U.pushCell { cls := comp, slots := Array.replicate 4 (.int 0), vm := .none }).heap.size = U.heap.size + 1 := by
    show (U.heap.push _).size = _
    rw [Array.size_push]
  have e1 : cells + 1 + i + 1 = cells + 1 + (i + 1) := by omega
  have e2 : slots + 4 + 4 * i + (Array.replicate 4 (Value.int 0)).size = slots + 4 + 4 * (i + 1) := by
    rw [Array.size_replicate]
    omega
  have hs' : Stand p l e R s m args below meth c _ _ (cells + 1 + i + 1) (slots + 4 + 4 * i + (Array.replicate 4 (Value.int 0)).size) := hs
  rw [e1, e2] at hs'
  refine ⟨_, hs', h1, fun q hq => ?_, ?_, fun q hq => ?_, ?_, fun j hj => ?_⟩
  · rcases List.mem_append.mp hq with a | a
    · exact h2 q a
    · rw [List.mem_singleton] at a
      rw [a]
      exact Or.inr rfl
  · rw [size_setCell, hz, h3]
    omega
  · have hq' : q < U.heap.size := by omega
    rw [heapAt_setCell_ne _ (Nat.ne_of_gt hq), State.heap_pushCell_of_lt _ _ hq']
    exact h4 q hq
  · have hlt2 : T.heap.size < (U.pushCell { cls := comp, slots := Array.replicate 4 (.int 0), vm := .none }).heap.size := by
      rw [hz]
      omega
    rw [heapAt_setCell_self _ hlt2, arrV_store]
    congr 2
    funext j
    show (if j = i then Value.ref U.heap.size else if j < i then .ref (T.heap.size + 1 + j) else .null) = _
    by_cases q : j = i
    · rw [if_pos q, if_pos (by omega), q, h3]
    · rw [if_neg q]
      by_cases r : j < i
      · rw [if_pos r, if_pos (by omega)]
      · rw [if_neg r, if_neg (by omega)]
  · rw [heapAt_setCell_ne _ (show T.heap.size ≠ T.heap.size + 1 + j by omega)]
    by_cases q : j = i
    · subst q
      have hj' : T.heap.size + 1 + j = U.heap.size := by omega
      rw [hj', State.heap_pushCell_size, arrV_new]
    · have hj' : T.heap.size + 1 + j < U.heap.size := by omega
      rw [State.heap_pushCell_of_lt _ _ hj']
      exact h6 j (by omega)
def ma_U (T : State) (cA comp : ClassId) : Nat → State
  | 0 => T.pushCell { cls := cA, slots := Array.replicate 4 .null, vm := .none }
  | i + 1 => ((ma_U T cA comp i).pushCell { cls := comp, slots := Array.replicate 4 (.int 0), vm := .none }).setCell T.heap.size ((arrV cA 4 (fun j => if j < i then .ref (T.heap.size + 1 + j) else .null)).setSlot i (.ref (ma_U T cA comp i).heap.size))
theorem ma_all {T : State} {cA comp : ClassId} (X : Stand p l e R s m args below meth c T locs cells slots) : ∀ i, i ≤ 4 → ma_I p l e R s m args below meth c T locs cells slots cA comp i (ma_U T cA comp i)
  | 0, _ => ma_0 X
  | i + 1, h => ma_s (by omega) (ma_all X i (by omega))
theorem ma_make {E : CtlPost} {d : Bool} {acts : List Action} {T : State} {g : JFrame} {cA comp cc : ClassId} {kA kC : Class} {Q : Addr → Pre} (X : Stand p l e R s m args below meth c T locs cells slots) (hkA : T.vm.classes[cA]? = some kA) (hkindA : kA.kind = .array comp (.array .int)) (hkC : T.vm.classes[comp]? = some kC) (hkindC : kC.kind = .array cc .int) (hcells : cells + 5 ≤ R.cells) (hslots : slots + 20 ≤ R.slots)
    (hq : ∀ d' acts', Q T.heap.size d' acts' ((ma_U T cA comp 4).setTop g)) : wp (multianewarray.make cA [4, 4]) Q E e d acts (T.setTop g) := by
  have l1 : ¬ 4 > e.platform.arrayLengthLimit := by rw [Launch.admits_arrayLengthLimit X.admits]; omega
  have l2 : ¬ 4 * componentBytes (.array .int) > e.platform.maxHeapBytes := by rw [Launch.admits_maxHeapBytes X.admits]; show ¬ 4 * 4 > _; omega
  have l3 : ¬ 4 * componentBytes .int > e.platform.maxHeapBytes := by rw [Launch.admits_maxHeapBytes X.admits]; show ¬ 4 * 4 > _; omega
  have n4 : (4 : Int32).toNatClampNeg = 4 := by decide
  have p4 : ¬ (4 : Int32) < 0 := by decide
  have z4 : ((4 : Int32) == 0) = false := by decide
  obtain ⟨r1, r2⟩ := X.roomAbove (show cells + 5 ≤ R.cells from hcells) (show slots + 20 ≤ R.slots from hslots)
  rw [multianewarray.make]
  simp only [wp_bind', W.ite, p4, if_false, wp_pure', W.theClass, State.vm_setTop, hkA, hkindA, Option.some.injEq, exists_eq_left', n4]
  refine ma_new (k := kA) (cc := comp) (ty := .array .int) hkA hkindA l1 l2 rfl rfl (by show T.heap.size < _; omega) (by show T.slotsUsed + 4 ≤ _; omega) ?_
  simp only [z4, Bool.false_eq_true, if_false, wp_pure']
  rw [wp_bind', Std.Legacy.Range.forIn_eq_forIn_range']
  show wp (forIn (List.range' 0 4 1) PUnit.unit _) _ E e d acts _
  refine wp_forIn_inv (fun rest s' => ∃ i, i ≤ 4 ∧ rest = List.range' i (4 - i) ∧ s' = (ma_U T cA comp i).setTop g) _ _ ⟨0, Nat.zero_le _, rfl, rfl⟩ ?_ ?_
  · rintro x rest s' d' acts' Q' ⟨i, hi, hl, rfl⟩ hnext
    have hI := ma_all (cA := cA) (comp := comp) X i hi
    have hlt : i < 4 := by
      rcases Nat.lt_or_ge i 4 with h | h
      · exact h
      · rw [show 4 - i = 0 by omega] at hl
        cases hl
    rw [show 4 - i = (4 - (i + 1)) + 1 by omega, List.range'_succ] at hl
    have hx := (List.cons.inj hl).1
    have hr := (List.cons.inj hl).2
    rw [hx]
    obtain ⟨locs', X', h1, h2, h3, h4, h5, h6⟩ := id hI
    obtain ⟨q1, q2⟩ := X'.roomAbove (show cells + 1 + i + 1 ≤ R.cells by omega) (show slots + 4 + 4 * i + 4 ≤ R.slots by omega)
    have hlt0 : T.heap.size < (ma_U T cA comp i).heap.size := by omega
    rw [multianewarray.make]
    simp only [wp_bind', W.ite, p4, if_false, wp_pure', W.theClass, State.vm_setTop, h1, hkC, hkindC, Option.some.injEq, exists_eq_left', n4]
    refine ma_new (k := kC) (cc := cc) (ty := .int) (by show (ma_U T cA comp i).vm.classes[comp]? = _; rw [h1]; exact hkC) hkindC l1 l3 rfl rfl (by show (ma_U T cA comp i).heap.size < _; omega) (by show (ma_U T cA comp i).slotsUsed + 4 ≤ _; omega) ?_
    simp only [wp_bind', W.writeLoc, wp_pure']
    refine ⟨_, (State.heap_pushCell_of_lt (ma_U T cA comp i) _ hlt0).trans h5, (by intro q; cases q), (by rw [arrV_size]; exact hlt), ?_, hnext _ _ _ ⟨i + 1, hlt, hr, rfl⟩⟩
    show State.fitsSlot _ cA .none i _ = true
    have hk' : (ma_U T cA comp i).vm.classes[cA]? = some kA := by rw [h1]; exact hkA
    simp [State.fitsSlot, State.slotType?, hk', hkindA, fits]
  · rintro s' d' acts' ⟨i, hi, hl, rfl⟩
    have hi4 : i = 4 := by
      rcases Nat.lt_or_ge i 4 with h | h
      · rw [show 4 - i = (4 - (i + 1)) + 1 by omega, List.range'_succ] at hl
        cases hl
      · omega
    subst hi4
    simp only [wp_pure']
    exact hq _ _
theorem ma_row {cc : ByteArray} {H : Heap} {Q : State → Prop} {pc : Nat} {ls : Array Slot} {rest : List Value} (hexec : p.tables.exec = Jvm.exec) (hb : c.code = cc) {own : String} {index : Nat} (hown : s.vm.findClass own = some m.cls) (hclink : (Cond.classLink own index "[[I").before args s = true) (hover : (Cond.arrayOver (.array .int)).before args s = true) (harr : (Cond.arrayClass .int).before args s = true) (hdg : decode cc pc = .ok (.multianewarray index 2, 4)) (hcells : cells + 5 ≤ R.cells) (hslots : slots + 20 ≤ R.slots)
    (kk : ∀ (cA comp : ClassId) (H1 : Heap) (locs1 : List Loc), s.vm.findClass ("[" ++ (FieldType.array .int).toString) = some cA → s.vm.findClass ("[" ++ FieldType.int.toString) = some comp → H1.size = H.size + 5 → (∀ q : Nat, q < H.size → H1[q]? = H[q]?) → H1[H.size]? = some (arrV cA 4 (fun j => if j < 4 then .ref (H.size + 1 + j) else .null)) → (∀ j, j < 4 → H1[H.size + 1 + j]? = some (arrV comp 4 (fun _ => .int 0))) → (∀ q ∈ locs1, q ∈ locs ∨ q.base = H.size) → W p l e R s m args below meth c H1 locs1 (cells + 5) (slots + 20) Q (F0 m (pc + 4) ls (.ref H.size :: rest))) : W p l e R s m args below meth c H locs cells slots Q (F0 m pc ls (.int 4 :: .int 4 :: rest)) := by
  intro T hT X
  subst hT; subst hb
  have hpl : e.platform.magicAccessors = ({} : Platform).magicAccessors := by rw [X.admits.platform]
  obtain ⟨comp, cA, kA, hcomp, -, hkA, hkindA, hnameA⟩ := arrayOverA_spec (t := .int) hover
  obtain ⟨comp', kC, cc', hcomp', hkC, hkindC⟩ := Cond.arrayClass_spec harr
  have ecomp : comp' = comp := Option.some.inj (hcomp'.symm.trans hcomp)
  subst ecomp
  obtain ⟨c0, hfc0, hcl⟩ := Cond.classLink_spec hown hclink e.platform hpl
  cases hnameA.symm.trans hfc0
  obtain ⟨hg₁, hwarm₁, hready₁⟩ := State.classEntry (e := e) X.warmed hcl
  generalize T.vm.noted m.cls index (.cls cA) = vm₁ at hg₁ hwarm₁ hready₁
  have hal : s.vm.Alike vm₁ := hwarm₁.alike
  obtain ⟨kA₁, hkA₁, heA⟩ := hal.2.2 _ _ hkA
  obtain ⟨kC₁, hkC₁, heC⟩ := hal.2.2 _ _ hkC
  have hkindA₁ : kA₁.kind = .array comp' (.array .int) := by rw [heA]; exact hkindA
  have hkindC₁ : kC₁.kind = .array cc' .int := by rw [heC]; exact hkindC
  have X₁ := X.noted hwarm₁
  obtain ⟨locs', XU, h1, h2, h3, h4, h5, h6⟩ := ma_all (cA := cA) (comp := comp') X₁ 4 (Nat.le_refl _)
  obtain ⟨t, a1, b1⟩ := kk cA comp' _ locs' hnameA hcomp' h3 h4 h5 h6 h2 (ma_U (T.setVm vm₁) cA comp' 4) rfl XU
  refine ⟨t, ?_, b1⟩
  jvm_step X.here [hexec, hdg]
  simp only [multianewarray.sem, wp_bind', W.resolveClassAt_links (State.method?_setTop (s := T) (F0 m pc ls (.int 4 :: .int 4 :: rest)) X.here.top) hg₁]
  rw [W.popN, if_neg (by decide)]
  refine ⟨F0 m pc ls (.int 4 :: .int 4 :: rest), State.topJava?_setTop' (s := T.setVm vm₁) _ X.here.top, [.int 4, .int 4], rest, rfl, rfl, ?_⟩
  simp only [List.mapM_cons, List.mapM_nil, wp_bind', wp_pure']
  have eS : ((T.setTop (F0 m pc ls (.int 4 :: .int 4 :: rest))).setVm vm₁).setTop (F0 m pc ls rest) = (T.setVm vm₁).setTop (F0 m pc ls rest) := by
    show ((T.setVm vm₁).setTop _).setTop _ = _
    rw [State.setTop_setTop]
  rw [eS]
  refine ma_make X₁ hkA₁ hkindA₁ hkC₁ hkindC₁ hcells hslots (fun d' acts' => ?_)
  simp only [wp_bind', W.mark, W.pushRef, State.topJava?_setTop' _ XU.here.top, Option.some.injEq, exists_eq_left', State.setTop_setTop, State.heap_setTop]
  intro acts
  simp [jvm, XU.here.top]
  exact a1
end MNA
theorem arrV_e {cI : ClassId} {N : Nat} {f g : Nat → Value} (h : ∀ j, j < N → f j = g j) : arrV cI N f = arrV cI N g := by
  unfold arrV
  congr 2
  funext j
  exact h j.val j.isLt
theorem ma_W {cy : Nat → ClassId} {S0 : Nat} {σ : am_M} : am_W cy S0 (am_rows (am_new2 (am_new σ 25 4) 4) (am_S σ).length) = ((((am_W cy S0 σ ++ [(S0 + (am_S σ).length, am_E cy S0 (fun _ => 0) (fun _ => 0) (fun k => if k < 4 then some ((am_S σ).length + 1 + k) else none) (25, 4))]) ++ [(S0 + ((am_S σ).length + 1), am_E cy S0 (fun _ => 0) (fun _ => 0) (fun _ => none) (20, 4))]) ++ [(S0 + ((am_S σ).length + 1 + 1), am_E cy S0 (fun _ => 0) (fun _ => 0) (fun _ => none) (20, 4))]) ++ [(S0 + ((am_S σ).length + 1 + 1 + 1), am_E cy S0 (fun _ => 0) (fun _ => 0) (fun _ => none) (20, 4))]) ++ [(S0 + ((am_S σ).length + 1 + 1 + 1 + 1), am_E cy S0 (fun _ => 0) (fun _ => 0) (fun _ => none) (20, 4))] := by
  have hl : (am_W cy S0 σ).length = (am_S σ).length := by unfold am_W; rw [List.length_map, List.length_zipIdx]
  have e0 : am_new2 (am_new σ 25 4) 4 = am_new (am_new (am_new (am_new (am_new σ 25 4) 20 4) 20 4) 20 4) 20 4 := rfl
  have hat : (am_S (am_new2 (am_new σ 25 4) 4))[(am_S σ).length]? = some (25, 4) := by
    show (am_S σ ++ [(25, 4)] ++ [(20, 4)] ++ [(20, 4)] ++ [(20, 4)] ++ [(20, 4)])[(am_S σ).length]? = _
    simp [List.getElem?_append]
  have v1 : (am_new2 (am_new σ 25 4) 4).1 (am_S σ).length = fun _ => 0 := by
    funext k
    rw [e0]
    simp [am_new, am_z, am_S]
  have v2 : (am_new2 (am_new σ 25 4) 4).2.1 (am_S σ).length = fun _ => 0 := by
    funext k
    rw [e0]
    simp [am_new, am_z, am_S]
  have v3 : (am_rows (am_new2 (am_new σ 25 4) 4) (am_S σ).length).2.2.1 (am_S σ).length = fun k => if k < 4 then some ((am_S σ).length + 1 + k) else none := by
    funext k
    rw [e0]
    simp [am_rows, am_new, am_z, am_S]
  rw [am_W_set (σ := am_new2 (am_new σ 25 4) 4) (σ' := am_rows (am_new2 (am_new σ 25 4) 4) (am_S σ).length) rfl hat (fun _ _ => rfl) (fun _ _ => rfl) (fun a ha => funext fun k => by show (if a = (am_S σ).length ∧ k < 4 then some ((am_S σ).length + 1 + k) else (am_new2 (am_new σ 25 4) 4).2.2.1 a k) = _; exact if_neg (fun q => ha q.1)), v3]
  show (am_W cy S0 (am_new2 (am_new σ 25 4) 4)).set (am_S σ).length (S0 + (am_S σ).length, am_E cy S0 ((am_new2 (am_new σ 25 4) 4).1 (am_S σ).length) ((am_new2 (am_new σ 25 4) 4).2.1 (am_S σ).length) _ (25, 4)) = _
  rw [v1, v2, e0, am_W_new, am_W_new, am_W_new, am_W_new, am_W_new]
  simp only [am_S_new]
  generalize am_E cy S0 (fun _ => 0) (fun _ => 0) (fun k => if k < 4 then some ((am_S σ).length + 1 + k) else none) (25, 4) = y
  rw [List.set_append_left _ _ (by simp [hl]), List.set_append_left _ _ (by simp [hl]), List.set_append_left _ _ (by simp [hl]), List.set_append_left _ _ (by simp [hl]), List.set_append_right _ _ (by rw [hl]; exact Nat.le_refl _), hl, Nat.sub_self]
  rfl
theorem ma_1 {D : va_G} {H : Heap} {x : Nat × va_E} (h : va_at D vwCl x H) : va_P D vwCl [x] H := by
  intro k q hk
  have hz : k < 1 := (List.getElem?_eq_some_iff.mp hk).1
  rw [show k = 0 by omega] at hk
  cases hk
  exact h
theorem sm_mna {p : Program} {l : Launch} {e : Env} {R : Room} {s : State} {m : MethodId} {args : Array Value} {below : List Frame} {meth : Method} {c : Code} {Q : State → Prop} {D : va_G} {cy : Nat → ClassId} {X : am_X} {b S0 y : Nat} {r : am_Row} {ix d : Nat} (hC : am_C p s m args meth c D cy X b S0 y r) : am_Sim p l e R s m args below meth c Q D cy X b S0 y r (.multianewarray ix d) := by
  intro x pc L st σ pc' L' st' σ' H locs ls cells slots hd hk h hH hS hL hR hA hcs hcl hsl kk
  obtain ⟨hx, hb, -, hml, hown, hts, hE, -, hini, hscr⟩ := hC
  dsimp only [am_step] at h
  split at h
  · rename_i w mm nn rr
    split at h
    · rename_i hmn
      obtain ⟨hm4, hn4⟩ := hmn
      subst hm4
      subst hn4
      cases h
      dsimp only [am_chkI] at hk
      rw [Bool.and_eq_true] at hk
      obtain ⟨hd2, hwd⟩ := hk
      have hd2 := Nat.eq_of_beq_eq_true hd2
      subst hd2
      have hlen : (am_S (am_rows (am_new2 (am_new σ 25 4) 4) (am_S σ).length)).length = (am_S σ).length + 5 := by
        show (am_S σ ++ [(25, 4)] ++ [(20, 4)] ++ [(20, 4)] ++ [(20, 4)] ++ [(20, 4)]).length = _
        simp
      have hns : am_nS (am_rows (am_new2 (am_new σ 25 4) 4) (am_S σ).length) = am_nS σ + 20 := by
        show (List.map (fun q : Nat × Nat => q.2) (am_S σ ++ [(25, 4)] ++ [(20, 4)] ++ [(20, 4)] ++ [(20, 4)] ++ [(20, 4)])).sum = (List.map (fun q : Nat × Nat => q.2) (am_S σ)).sum + 20
        simp [am_nS, Nat.add_assoc]
      rw [hlen] at hcl
      rw [hns] at hsl
      refine ma_row (rest := rr.map (am_cv b S0)) hx hb hown (hts _ (am_wd_in hwd)) (show (Cond.arrayOver (.array .int)).before args s = true from hE.2.2.2.2) (hts _ (am_wd_in am_acI)) (am_dec_1 hd rfl rfl) (by omega) (by omega) (fun cA comp H1 locs1 f1 f2 z1 o1 e1 r1 l1 => ?_)
      have hz := hH.2.1
      have hcA : cA = cy 5 := Option.some.inj (f1.symm.trans ((hE.1.2 5 (cy 5, .array .int) rfl).2 : s.vm.findClass _ = some (cy 5)))
      have hcB : comp = cy 0 := Option.some.inj (f2.symm.trans ((hE.1.2 0 (cy 0, .int) rfl).2 : s.vm.findClass _ = some (cy 0)))
      subst hcA
      subst hcB
      rw [hz] at z1 e1
      rw [hz] at r1
      have row : ∀ j, j < 4 → va_at D vwCl (S0 + (am_S σ).length + 1 + j, am_E cy S0 (fun _ => 0) (fun _ => 0) (fun _ => none) (20, 4)) H1 := fun j hj => r1 j hj
      have out : va_at D vwCl (S0 + (am_S σ).length, am_E cy S0 (fun _ => 0) (fun _ => 0) (fun k => if k < 4 then some ((am_S σ).length + 1 + k) else none) (25, 4)) H1 := by
        show H1[S0 + (am_S σ).length]? = some (arrV (cy 5) 4 (fun j => va_rf ((if j < 4 then some ((am_S σ).length + 1 + j) else none : Option Nat).map (S0 + ·))))
        refine e1.trans (congrArg some (arrV_e (fun j hj => ?_)))
        show (if j < 4 then Value.ref (S0 + (am_S σ).length + 1 + j) else Value.null) = va_rf ((if j < 4 then some ((am_S σ).length + 1 + j) else none : Option Nat).map (S0 + ·))
        rw [if_pos hj, if_pos hj]
        show Value.ref (S0 + (am_S σ).length + 1 + j) = Value.ref (S0 + ((am_S σ).length + 1 + j))
        rw [Nat.add_assoc S0, Nat.add_assoc S0]
      have hP := hH.1.kept (H1 := H1) (fun k q hq => o1 q.1 ((hH.1 k q hq).lt))
      have hH' : am_H D cy S0 (am_rows (am_new2 (am_new σ 25 4) 4) (am_S σ).length) H1 := by
        refine ⟨?_, ?_, ?_⟩
        · rw [ma_W]
          exact ((((hP.app (ma_1 out)).app (ma_1 (row 0 (by decide)))).app (ma_1 (row 1 (by decide)))).app (ma_1 (row 2 (by decide)))).app (ma_1 (row 3 (by decide)))
        · rw [z1, hlen]
          omega
        · show am_wf (am_new (am_new (am_new (am_new (am_new σ 25 4) 20 4) 20 4) 20 4) 20 4)
          have n20 : ∀ q, vwCl[20]? = some q → (4 : Nat) = q.2.2 := fun q h9 => by cases h9
          exact am_wf_new (am_wf_new (am_wf_new (am_wf_new (am_wf_new hH.2.2 (fun q h9 => by cases h9)) n20) n20) n20) n20
      have := kk H1 locs1 ls (cells + 5) (slots + 20) hH' ⟨Nat.le_trans hS.1 (by omega), fun q h1 h2 => (o1 q (Nat.lt_of_lt_of_le h1 hS.1)).trans (hS.2.1 q h1 h2), fun q hq => (l1 q hq).elim (hS.2.2 q) (fun e => by rw [e, hz]; exact Nat.le_add_right _ _)⟩ hL (by rw [hlen]; omega) (by rw [hns]; omega)
      rw [hz]
      exact this
    · cases h
  · cases h
