/-! one step of the abstract machine is steps of the real one -/
theorem am_dec_of {bytes : ByteArray} {pc : Nat} {ins : Instr} (h : am_dec bytes pc ins = true) : ∃ n, decode bytes pc = .ok (ins, n) ∧ (am_isSw ins = false → n = am_len ins) := by
  unfold am_dec at h
  split at h
  · rename_i i n he
    rw [Bool.and_eq_true, decide_eq_true_eq, Bool.or_eq_true] at h
    obtain ⟨rfl, h⟩ := h
    refine ⟨n, he, fun hs => ?_⟩
    rcases h with h | h
    · rw [hs] at h; cases h
    · exact Nat.eq_of_beq_eq_true h
  · cases h
theorem am_dec_1 {bytes : ByteArray} {pc k : Nat} {ins : Instr} (h : am_dec bytes pc ins = true) (hs : am_isSw ins = false) (hk : am_len ins = k) : decode bytes pc = .ok (ins, k) := by
  obtain ⟨n, h1, h2⟩ := am_dec_of h
  rw [h1, h2 hs, hk]
/-- what holds at every place of a method's body: the machine, the code, the words; in the law the script too -/
def am_C (p : Program) (s : State) (m : MethodId) (args : Array Value) (meth : Method) (c : Code) (D : va_G) (cy : Nat → ClassId) (X : am_X) (b S0 y : Nat) (r : am_Row) : Prop :=
  p.tables.exec = Jvm.exec ∧ c.code = r.2.1 ∧ meth.sig.returnType = r.2.2.2.1 ∧ c.maxLocals = r.2.2.1 ∧ s.vm.findClass r.1.cls = some m.cls ∧ (∀ w ∈ am_ws, w.before args s = true) ∧ am_Env D cy s ∧ meth.locks = false ∧ (r.1.name = "<init>" → meth.name = "<init>") ∧ (y = 0 → va_X b X.2 X.1 s s.heap ∧ b < s.heap.size ∧ b < S0)
def am_K (p : Program) (l : Launch) (e : Env) (R : Room) (s : State) (m : MethodId) (args : Array Value) (below : List Frame) (meth : Method) (c : Code) (Q : State → Prop) (D : va_G) (cy : Nat → ClassId) (b S0 : Nat) (g : Bool) (nL : Nat) (σ : am_M) (slots : Nat) (pc' : Nat) (L' : am_L) (st' : List Value) (σ' : am_M) : Prop :=
  ∀ (H' : Heap) (locs' : List Loc) (ls' : Array Slot) (cells' slots' : Nat), am_H D cy S0 σ' H' → va_S (fun q => S0 ≤ q) s.heap H' locs' → am_LR b S0 g L' nL ls' → s.heap.size + cells' = S0 + (am_S σ').length → slots' + am_nS σ = slots + am_nS σ' → W p l e R s m args below meth c H' locs' cells' slots' Q (F0 m pc' ls' (st'.map (am_cv b S0)))
def am_Sim (p : Program) (l : Launch) (e : Env) (R : Room) (s : State) (m : MethodId) (args : Array Value) (below : List Frame) (meth : Method) (c : Code) (Q : State → Prop) (D : va_G) (cy : Nat → ClassId) (X : am_X) (b S0 : Nat) (y : Nat) (r : am_Row) (ins : Instr) : Prop :=
  ∀ (x : List Nat) (pc : Nat) (L : am_L) (st : List Value) (σ : am_M) (pc' : Nat) (L' : am_L) (st' : List Value) (σ' : am_M) (H : Heap) (locs : List Loc) (ls : Array Slot) (cells slots : Nat),
    am_dec r.2.1 pc ins = true → am_chkI r.1.cls r.1.name pc ins x = true → am_step X y r.2.2.2.2.1 r.2.2.2.2.2.1 ins x pc L st σ = some (.inl (pc', L', st', σ')) →
    am_H D cy S0 σ H → va_S (fun q => S0 ≤ q) s.heap H locs → am_LR b S0 r.2.2.2.2.1 L r.2.2.1 ls → 1 ≤ R.frames ∧ 40 ≤ R.locals → S0 ≤ s.heap.size → s.heap.size + cells = S0 + (am_S σ).length →
    cells + (am_S σ').length ≤ R.cells + (am_S σ).length → slots + am_nS σ' ≤ R.slots + am_nS σ →
    am_K p l e R s m args below meth c Q D cy b S0 r.2.2.2.2.1 r.2.2.1 σ slots pc' L' st' σ' → W p l e R s m args below meth c H locs cells slots Q (F0 m pc ls (st.map (am_cv b S0)))
section SM
variable {p : Program} {l : Launch} {e : Env} {R : Room} {s : State} {m : MethodId} {args : Array Value} {below : List Frame} {meth : Method} {c : Code} {Q : State → Prop} {D : va_G} {cy : Nat → ClassId} {X : am_X} {b S0 y : Nat} {r : am_Row}
theorem sm_iconst {n : Int} (hC : am_C p s m args meth c D cy X b S0 y r) : am_Sim p l e R s m args below meth c Q D cy X b S0 y r (.iconst n) := by
  intro x pc L st σ pc' L' st' σ' H locs ls cells slots hd hk h hH hS hL hR hA hcs hcl hsl kk
  obtain ⟨hx, hb, -, hml, hown, hts, hE, -, hini, hscr⟩ := hC
  cases h
  exact lv_iconst hx hb (am_dec_1 hd rfl rfl) rfl (kk _ _ _ _ _ hH hS hL hcs rfl)
theorem sm_bipush {n : Int} (hC : am_C p s m args meth c D cy X b S0 y r) : am_Sim p l e R s m args below meth c Q D cy X b S0 y r (.bipush n) := by
  intro x pc L st σ pc' L' st' σ' H locs ls cells slots hd hk h hH hS hL hR hA hcs hcl hsl kk
  obtain ⟨hx, hb, -, hml, hown, hts, hE, -, hini, hscr⟩ := hC
  cases h
  exact lv_bipush hx hb (am_dec_1 hd rfl rfl) rfl (kk _ _ _ _ _ hH hS hL hcs rfl)
theorem sm_sipush {n : Int} (hC : am_C p s m args meth c D cy X b S0 y r) : am_Sim p l e R s m args below meth c Q D cy X b S0 y r (.sipush n) := by
  intro x pc L st σ pc' L' st' σ' H locs ls cells slots hd hk h hH hS hL hR hA hcs hcl hsl kk
  obtain ⟨hx, hb, -, hml, hown, hts, hE, -, hini, hscr⟩ := hC
  cases h
  exact lv_sipush hx hb (am_dec_1 hd rfl rfl) rfl (kk _ _ _ _ _ hH hS hL hcs rfl)
theorem sm_lconst {n : Fin 2} (hC : am_C p s m args meth c D cy X b S0 y r) : am_Sim p l e R s m args below meth c Q D cy X b S0 y r (.lconst n) := by
  intro x pc L st σ pc' L' st' σ' H locs ls cells slots hd hk h hH hS hL hR hA hcs hcl hsl kk
  obtain ⟨hx, hb, -, hml, hown, hts, hE, -, hini, hscr⟩ := hC
  cases h
  exact lv_lconst hx hb (am_dec_1 hd rfl rfl) rfl (kk _ _ _ _ _ hH hS hL hcs rfl)
theorem sm_aconst_null (hC : am_C p s m args meth c D cy X b S0 y r) : am_Sim p l e R s m args below meth c Q D cy X b S0 y r (.aconst_null) := by
  intro x pc L st σ pc' L' st' σ' H locs ls cells slots hd hk h hH hS hL hR hA hcs hcl hsl kk
  obtain ⟨hx, hb, -, hml, hown, hts, hE, -, hini, hscr⟩ := hC
  cases h
  exact lv_null hx hb (am_dec_1 hd rfl rfl) (kk _ _ _ _ _ hH hS hL hcs rfl)
theorem sm_ldc_w {n : Nat} (hC : am_C p s m args meth c D cy X b S0 y r) : am_Sim p l e R s m args below meth c Q D cy X b S0 y r (.ldc_w n) := by
  intro x pc L st σ pc' L' st' σ' H locs ls cells slots hd hk h hH hS hL hR hA hcs hcl hsl kk
  obtain ⟨hx, hb, -, hml, hown, hts, hE, -, hini, hscr⟩ := hC
  dsimp only [am_step] at h
  split at h
  · cases h
    exact lv_ldcw hx hb hown (hts _ (am_wd_in hk)) (am_dec_1 hd rfl rfl) (kk _ _ _ _ _ hH hS hL hcs rfl)
  · cases h
theorem sm_ldc2_w {n : Nat} (hC : am_C p s m args meth c D cy X b S0 y r) : am_Sim p l e R s m args below meth c Q D cy X b S0 y r (.ldc2_w n) := by
  intro x pc L st σ pc' L' st' σ' H locs ls cells slots hd hk h hH hS hL hR hA hcs hcl hsl kk
  obtain ⟨hx, hb, -, hml, hown, hts, hE, -, hini, hscr⟩ := hC
  dsimp only [am_step] at h
  split at h
  · cases h
    exact lv_ldc2 hx hb hown (hts _ (am_wd_in hk)) (am_dec_1 hd rfl rfl) (kk _ _ _ _ _ hH hS hL hcs rfl)
  · cases h
    exact lv_ldc2 hx hb hown (hts _ (am_wd_in hk)) (am_dec_1 hd rfl rfl) (kk _ _ _ _ _ hH hS hL hcs rfl)
  · cases h
theorem sm_iload_n {k : Fin 4} (hC : am_C p s m args meth c D cy X b S0 y r) : am_Sim p l e R s m args below meth c Q D cy X b S0 y r (.iload_n k) := by
  intro x pc L st σ pc' L' st' σ' H locs ls cells slots hd hk h hH hS hL hR hA hcs hcl hsl kk
  obtain ⟨hx, hb, -, hml, hown, hts, hE, -, hini, hscr⟩ := hC
  dsimp only [am_step] at h
  split at h
  · rename_i v hv
    cases h
    exact lv_iload_n hx hb (am_dec_1 hd rfl rfl) rfl (am_LR_get hL hv) (kk _ _ _ _ _ hH hS hL hcs rfl)
  · cases h
theorem sm_iload {k : Nat} (hC : am_C p s m args meth c D cy X b S0 y r) : am_Sim p l e R s m args below meth c Q D cy X b S0 y r (.iload k) := by
  intro x pc L st σ pc' L' st' σ' H locs ls cells slots hd hk h hH hS hL hR hA hcs hcl hsl kk
  obtain ⟨hx, hb, -, hml, hown, hts, hE, -, hini, hscr⟩ := hC
  dsimp only [am_step] at h
  split at h
  · rename_i v hv
    cases h
    exact lv_iload hx hb (am_dec_1 hd rfl rfl) (am_LR_get hL hv) (kk _ _ _ _ _ hH hS hL hcs rfl)
  · cases h
theorem sm_lload_n {k : Fin 4} (hC : am_C p s m args meth c D cy X b S0 y r) : am_Sim p l e R s m args below meth c Q D cy X b S0 y r (.lload_n k) := by
  intro x pc L st σ pc' L' st' σ' H locs ls cells slots hd hk h hH hS hL hR hA hcs hcl hsl kk
  obtain ⟨hx, hb, -, hml, hown, hts, hE, -, hini, hscr⟩ := hC
  dsimp only [am_step] at h
  split at h
  · rename_i v hv
    cases h
    exact lv_lload_n hx hb (am_dec_1 hd rfl rfl) rfl (am_LR_get hL hv) (kk _ _ _ _ _ hH hS hL hcs rfl)
  · cases h
theorem sm_lload {k : Nat} (hC : am_C p s m args meth c D cy X b S0 y r) : am_Sim p l e R s m args below meth c Q D cy X b S0 y r (.lload k) := by
  intro x pc L st σ pc' L' st' σ' H locs ls cells slots hd hk h hH hS hL hR hA hcs hcl hsl kk
  obtain ⟨hx, hb, -, hml, hown, hts, hE, -, hini, hscr⟩ := hC
  dsimp only [am_step] at h
  split at h
  · rename_i v hv
    cases h
    exact lv_lload hx hb (am_dec_1 hd rfl rfl) (am_LR_get hL hv) (kk _ _ _ _ _ hH hS hL hcs rfl)
  · cases h
theorem sm_aload_n {k : Fin 4} (hC : am_C p s m args meth c D cy X b S0 y r) : am_Sim p l e R s m args below meth c Q D cy X b S0 y r (.aload_n k) := by
  intro x pc L st σ pc' L' st' σ' H locs ls cells slots hd hk h hH hS hL hR hA hcs hcl hsl kk
  obtain ⟨hx, hb, -, hml, hown, hts, hE, -, hini, hscr⟩ := hC
  dsimp only [am_step] at h
  split at h
  · rename_i v hv
    cases h
    exact lv_aload_n hx hb (am_dec_1 hd rfl rfl) rfl (am_LR_get hL hv) (kk _ _ _ _ _ hH hS hL hcs rfl)
  · rename_i v hv
    cases h
    exact lv_aload_n hx hb (am_dec_1 hd rfl rfl) rfl (am_LR_get hL hv) (kk _ _ _ _ _ hH hS hL hcs rfl)
  · rename_i hv
    cases h
    exact lv_aload_nN hx hb (am_dec_1 hd rfl rfl) rfl (am_LR_get hL hv) (kk _ _ _ _ _ hH hS hL hcs rfl)
  · cases h
theorem sm_aload {k : Nat} (hC : am_C p s m args meth c D cy X b S0 y r) : am_Sim p l e R s m args below meth c Q D cy X b S0 y r (.aload k) := by
  intro x pc L st σ pc' L' st' σ' H locs ls cells slots hd hk h hH hS hL hR hA hcs hcl hsl kk
  obtain ⟨hx, hb, -, hml, hown, hts, hE, -, hini, hscr⟩ := hC
  dsimp only [am_step] at h
  split at h
  · rename_i v hv
    cases h
    exact lv_aload hx hb (am_dec_1 hd rfl rfl) (am_LR_get hL hv) (kk _ _ _ _ _ hH hS hL hcs rfl)
  · rename_i hv
    cases h
    exact lv_aloadN hx hb (am_dec_1 hd rfl rfl) (am_LR_get hL hv) (kk _ _ _ _ _ hH hS hL hcs rfl)
  · cases h
theorem am_set_lt {g : Bool} {L L' : am_L} {k nL : Nat} {v : Value} (h : am_set g L k v = some L') (hl : L.length = nL) : k < nL := by
  unfold am_set at h
  split at h
  · rename_i hc
    rw [Bool.and_eq_true] at hc
    rw [← hl]
    exact Nat.le_of_ble_eq_true hc.1
  · cases h
theorem am_set2_lt {g : Bool} {L L' : am_L} {k nL : Nat} {v : Value} (h : am_set2 g L k v = some L') (hl : L.length = nL) : k + 1 < nL := by
  unfold am_set2 at h
  split at h
  · rename_i hc
    rw [Bool.and_eq_true] at hc
    rw [← hl]
    exact Nat.le_of_ble_eq_true hc.1
  · cases h
theorem sm_istore_n {k : Fin 4} (hC : am_C p s m args meth c D cy X b S0 y r) : am_Sim p l e R s m args below meth c Q D cy X b S0 y r (.istore_n k) := by
  intro x pc L st σ pc' L' st' σ' H locs ls cells slots hd hk h hH hS hL hR hA hcs hcl hsl kk
  obtain ⟨hx, hb, -, hml, hown, hts, hE, -, hini, hscr⟩ := hC
  dsimp only [am_step] at h
  split at h
  · unfold am_nL at h
    split at h
    · rename_i L2 hL2
      cases h
      exact lv_istore_n hx hb (am_dec_1 hd rfl rfl) rfl hL.2.1 (am_set_lt hL2 hL.1) rfl (fun ls' hh => kk _ _ _ _ _ hH hS (am_LR_set hL hL2 rfl hh) hcs rfl)
    · cases h
  · cases h
theorem sm_istore {k : Nat} (hC : am_C p s m args meth c D cy X b S0 y r) : am_Sim p l e R s m args below meth c Q D cy X b S0 y r (.istore k) := by
  intro x pc L st σ pc' L' st' σ' H locs ls cells slots hd hk h hH hS hL hR hA hcs hcl hsl kk
  obtain ⟨hx, hb, -, hml, hown, hts, hE, -, hini, hscr⟩ := hC
  dsimp only [am_step] at h
  split at h
  · unfold am_nL at h
    split at h
    · rename_i L2 hL2
      cases h
      exact lv_istore hx hb (am_dec_1 hd rfl rfl) hL.2.1 (am_set_lt hL2 hL.1) rfl (fun ls' hh => kk _ _ _ _ _ hH hS (am_LR_set hL hL2 rfl hh) hcs rfl)
    · cases h
  · cases h
theorem sm_lstore_n {k : Fin 4} (hC : am_C p s m args meth c D cy X b S0 y r) : am_Sim p l e R s m args below meth c Q D cy X b S0 y r (.lstore_n k) := by
  intro x pc L st σ pc' L' st' σ' H locs ls cells slots hd hk h hH hS hL hR hA hcs hcl hsl kk
  obtain ⟨hx, hb, -, hml, hown, hts, hE, -, hini, hscr⟩ := hC
  dsimp only [am_step] at h
  split at h
  · unfold am_nL at h
    split at h
    · rename_i L2 hL2
      cases h
      exact lv_lstore_n hx hb (am_dec_1 hd rfl rfl) rfl hL.2.1 (am_set2_lt hL2 hL.1) rfl (fun ls' hh => kk _ _ _ _ _ hH hS (am_LR_set2 hL hL2 hh) hcs rfl)
    · cases h
  · cases h
theorem sm_lstore {k : Nat} (hC : am_C p s m args meth c D cy X b S0 y r) : am_Sim p l e R s m args below meth c Q D cy X b S0 y r (.lstore k) := by
  intro x pc L st σ pc' L' st' σ' H locs ls cells slots hd hk h hH hS hL hR hA hcs hcl hsl kk
  obtain ⟨hx, hb, -, hml, hown, hts, hE, -, hini, hscr⟩ := hC
  dsimp only [am_step] at h
  split at h
  · unfold am_nL at h
    split at h
    · rename_i L2 hL2
      cases h
      exact lv_lstore hx hb (am_dec_1 hd rfl rfl) hL.2.1 (am_set2_lt hL2 hL.1) rfl (fun ls' hh => kk _ _ _ _ _ hH hS (am_LR_set2 hL hL2 hh) hcs rfl)
    · cases h
  · cases h
theorem sm_astore_n {k : Fin 4} (hC : am_C p s m args meth c D cy X b S0 y r) : am_Sim p l e R s m args below meth c Q D cy X b S0 y r (.astore_n k) := by
  intro x pc L st σ pc' L' st' σ' H locs ls cells slots hd hk h hH hS hL hR hA hcs hcl hsl kk
  obtain ⟨hx, hb, -, hml, hown, hts, hE, -, hini, hscr⟩ := hC
  dsimp only [am_step] at h
  split at h
  · unfold am_nL at h
    split at h
    · rename_i L2 hL2
      cases h
      exact lv_astore_n hx hb (am_dec_1 hd rfl rfl) rfl hL.2.1 (am_set_lt hL2 hL.1) rfl (fun ls' hh => kk _ _ _ _ _ hH hS (am_LR_set hL hL2 rfl hh) hcs rfl)
    · cases h
  · unfold am_nL at h
    split at h
    · rename_i L2 hL2
      cases h
      exact lv_astore_nN hx hb (am_dec_1 hd rfl rfl) rfl hL.2.1 (am_set_lt hL2 hL.1) rfl (fun ls' hh => kk _ _ _ _ _ hH hS (am_LR_set hL hL2 rfl hh) hcs rfl)
    · cases h
  · cases h
theorem sm_astore {k : Nat} (hC : am_C p s m args meth c D cy X b S0 y r) : am_Sim p l e R s m args below meth c Q D cy X b S0 y r (.astore k) := by
  intro x pc L st σ pc' L' st' σ' H locs ls cells slots hd hk h hH hS hL hR hA hcs hcl hsl kk
  obtain ⟨hx, hb, -, hml, hown, hts, hE, -, hini, hscr⟩ := hC
  dsimp only [am_step] at h
  split at h
  · unfold am_nL at h
    split at h
    · rename_i L2 hL2
      cases h
      exact lv_astore hx hb (am_dec_1 hd rfl rfl) hL.2.1 (am_set_lt hL2 hL.1) rfl (fun ls' hh => kk _ _ _ _ _ hH hS (am_LR_set hL hL2 rfl hh) hcs rfl)
    · cases h
  · unfold am_nL at h
    split at h
    · rename_i L2 hL2
      cases h
      exact lv_astoreN hx hb (am_dec_1 hd rfl rfl) hL.2.1 (am_set_lt hL2 hL.1) rfl (fun ls' hh => kk _ _ _ _ _ hH hS (am_LR_set hL hL2 rfl hh) hcs rfl)
    · cases h
  · cases h
theorem am_get_ix {b S0 : Nat} {L : am_L} {k : Nat} {v : Value} (h : am_get L k = some v) : ∃ j : Nat, (am_ll b S0 0 L)[j]? = some (k, am_cv b S0 v) := by
  have h1 : L[k]? = some (some v) := by
    unfold am_get at h
    split at h
    · rename_i w hw
      cases h
      exact hw
    · cases h
  exact List.getElem?_of_mem ((am_ll_mem L 0 _).mpr ⟨k, v, h1, by rw [Nat.zero_add]⟩)
theorem sm_iinc {k : Nat} {n : Int} (hC : am_C p s m args meth c D cy X b S0 y r) : am_Sim p l e R s m args below meth c Q D cy X b S0 y r (.iinc k n) := by
  intro x pc L st σ pc' L' st' σ' H locs ls cells slots hd hk h hH hS hL hR hA hcs hcl hsl kk
  obtain ⟨hx, hb, -, hml, hown, hts, hE, -, hini, hscr⟩ := hC
  dsimp only [am_step] at h
  split at h
  · rename_i v hv
    unfold am_nL at h
    split at h
    · rename_i L2 hL2
      cases h
      obtain ⟨j, hj⟩ := am_get_ix (b := b) (S0 := S0) hv
      exact lv_iinc hx hb (am_dec_1 hd rfl rfl) hL.2.1 hj rfl (am_set_lt hL2 hL.1) rfl (fun ls' hh => kk _ _ _ _ _ hH hS (am_LR_set hL hL2 rfl hh) hcs rfl)
    · cases h
  · cases h
theorem am_isV_cat {b S0 : Nat} {v : Value} (h : am_isV v = true) : (am_cv b S0 v).category = 1 := by
  cases v <;> first | rfl | (exact absurd h (by simp [am_isV]))
theorem sm_pop (hC : am_C p s m args meth c D cy X b S0 y r) : am_Sim p l e R s m args below meth c Q D cy X b S0 y r (.pop) := by
  intro x pc L st σ pc' L' st' σ' H locs ls cells slots hd hk h hH hS hL hR hA hcs hcl hsl kk
  obtain ⟨hx, hb, -, hml, hown, hts, hE, -, hini, hscr⟩ := hC
  dsimp only [am_step] at h
  split at h
  · split at h
    · rename_i hv
      cases h
      exact lv_pop hx hb (am_dec_1 hd rfl rfl) (am_isV_cat hv) (kk _ _ _ _ _ hH hS hL hcs rfl)
    · cases h
  · cases h
theorem sm_dup (hC : am_C p s m args meth c D cy X b S0 y r) : am_Sim p l e R s m args below meth c Q D cy X b S0 y r (.dup) := by
  intro x pc L st σ pc' L' st' σ' H locs ls cells slots hd hk h hH hS hL hR hA hcs hcl hsl kk
  obtain ⟨hx, hb, -, hml, hown, hts, hE, -, hini, hscr⟩ := hC
  dsimp only [am_step] at h
  split at h
  · split at h
    · rename_i hv
      cases h
      exact lv_dup hx hb (am_dec_1 hd rfl rfl) (am_isV_cat hv) (kk _ _ _ _ _ hH hS hL hcs rfl)
    · cases h
  · cases h
theorem sm_dup2 (hC : am_C p s m args meth c D cy X b S0 y r) : am_Sim p l e R s m args below meth c Q D cy X b S0 y r (.dup2) := by
  intro x pc L st σ pc' L' st' σ' H locs ls cells slots hd hk h hH hS hL hR hA hcs hcl hsl kk
  obtain ⟨hx, hb, -, hml, hown, hts, hE, -, hini, hscr⟩ := hC
  dsimp only [am_step] at h
  split at h
  · split at h
    · rename_i hv
      rw [Bool.and_eq_true] at hv
      cases h
      exact lv_dup2_11 hx hb (am_dec_1 hd rfl rfl) (am_isV_cat hv.1) (am_isV_cat hv.2) (kk _ _ _ _ _ hH hS hL hcs rfl)
    · cases h
  · cases h
theorem sm_iadd (hC : am_C p s m args meth c D cy X b S0 y r) : am_Sim p l e R s m args below meth c Q D cy X b S0 y r (.iadd) := by
  intro x pc L st σ pc' L' st' σ' H locs ls cells slots hd hk h hH hS hL hR hA hcs hcl hsl kk
  obtain ⟨hx, hb, -, hml, hown, hts, hE, -, hini, hscr⟩ := hC
  dsimp only [am_step] at h
  split at h
  · cases h
    exact lv_iadd hx hb (am_dec_1 hd rfl rfl) (kk _ _ _ _ _ hH hS hL hcs rfl)
  · cases h
theorem sm_isub (hC : am_C p s m args meth c D cy X b S0 y r) : am_Sim p l e R s m args below meth c Q D cy X b S0 y r (.isub) := by
  intro x pc L st σ pc' L' st' σ' H locs ls cells slots hd hk h hH hS hL hR hA hcs hcl hsl kk
  obtain ⟨hx, hb, -, hml, hown, hts, hE, -, hini, hscr⟩ := hC
  dsimp only [am_step] at h
  split at h
  · cases h
    exact lv_isub hx hb (am_dec_1 hd rfl rfl) (kk _ _ _ _ _ hH hS hL hcs rfl)
  · cases h
theorem sm_imul (hC : am_C p s m args meth c D cy X b S0 y r) : am_Sim p l e R s m args below meth c Q D cy X b S0 y r (.imul) := by
  intro x pc L st σ pc' L' st' σ' H locs ls cells slots hd hk h hH hS hL hR hA hcs hcl hsl kk
  obtain ⟨hx, hb, -, hml, hown, hts, hE, -, hini, hscr⟩ := hC
  dsimp only [am_step] at h
  split at h
  · cases h
    exact lv_imul hx hb (am_dec_1 hd rfl rfl) (kk _ _ _ _ _ hH hS hL hcs rfl)
  · cases h
theorem sm_iand (hC : am_C p s m args meth c D cy X b S0 y r) : am_Sim p l e R s m args below meth c Q D cy X b S0 y r (.iand) := by
  intro x pc L st σ pc' L' st' σ' H locs ls cells slots hd hk h hH hS hL hR hA hcs hcl hsl kk
  obtain ⟨hx, hb, -, hml, hown, hts, hE, -, hini, hscr⟩ := hC
  dsimp only [am_step] at h
  split at h
  · cases h
    exact lv_iand hx hb (am_dec_1 hd rfl rfl) (kk _ _ _ _ _ hH hS hL hcs rfl)
  · cases h
theorem sm_ior (hC : am_C p s m args meth c D cy X b S0 y r) : am_Sim p l e R s m args below meth c Q D cy X b S0 y r (.ior) := by
  intro x pc L st σ pc' L' st' σ' H locs ls cells slots hd hk h hH hS hL hR hA hcs hcl hsl kk
  obtain ⟨hx, hb, -, hml, hown, hts, hE, -, hini, hscr⟩ := hC
  dsimp only [am_step] at h
  split at h
  · cases h
    exact lv_ior hx hb (am_dec_1 hd rfl rfl) (kk _ _ _ _ _ hH hS hL hcs rfl)
  · cases h
theorem sm_ixor (hC : am_C p s m args meth c D cy X b S0 y r) : am_Sim p l e R s m args below meth c Q D cy X b S0 y r (.ixor) := by
  intro x pc L st σ pc' L' st' σ' H locs ls cells slots hd hk h hH hS hL hR hA hcs hcl hsl kk
  obtain ⟨hx, hb, -, hml, hown, hts, hE, -, hini, hscr⟩ := hC
  dsimp only [am_step] at h
  split at h
  · cases h
    exact lv_ixor hx hb (am_dec_1 hd rfl rfl) (kk _ _ _ _ _ hH hS hL hcs rfl)
  · cases h
theorem sm_ishl (hC : am_C p s m args meth c D cy X b S0 y r) : am_Sim p l e R s m args below meth c Q D cy X b S0 y r (.ishl) := by
  intro x pc L st σ pc' L' st' σ' H locs ls cells slots hd hk h hH hS hL hR hA hcs hcl hsl kk
  obtain ⟨hx, hb, -, hml, hown, hts, hE, -, hini, hscr⟩ := hC
  dsimp only [am_step] at h
  split at h
  · cases h
    exact lv_ishl hx hb (am_dec_1 hd rfl rfl) (kk _ _ _ _ _ hH hS hL hcs rfl)
  · cases h
theorem sm_ishr (hC : am_C p s m args meth c D cy X b S0 y r) : am_Sim p l e R s m args below meth c Q D cy X b S0 y r (.ishr) := by
  intro x pc L st σ pc' L' st' σ' H locs ls cells slots hd hk h hH hS hL hR hA hcs hcl hsl kk
  obtain ⟨hx, hb, -, hml, hown, hts, hE, -, hini, hscr⟩ := hC
  dsimp only [am_step] at h
  split at h
  · cases h
    exact lv_ishr hx hb (am_dec_1 hd rfl rfl) (kk _ _ _ _ _ hH hS hL hcs rfl)
  · cases h
theorem sm_ineg (hC : am_C p s m args meth c D cy X b S0 y r) : am_Sim p l e R s m args below meth c Q D cy X b S0 y r (.ineg) := by
  intro x pc L st σ pc' L' st' σ' H locs ls cells slots hd hk h hH hS hL hR hA hcs hcl hsl kk
  obtain ⟨hx, hb, -, hml, hown, hts, hE, -, hini, hscr⟩ := hC
  dsimp only [am_step] at h
  split at h
  · cases h
    exact lv_ineg hx hb (am_dec_1 hd rfl rfl) (kk _ _ _ _ _ hH hS hL hcs rfl)
  · cases h
theorem sm_ladd (hC : am_C p s m args meth c D cy X b S0 y r) : am_Sim p l e R s m args below meth c Q D cy X b S0 y r (.ladd) := by
  intro x pc L st σ pc' L' st' σ' H locs ls cells slots hd hk h hH hS hL hR hA hcs hcl hsl kk
  obtain ⟨hx, hb, -, hml, hown, hts, hE, -, hini, hscr⟩ := hC
  dsimp only [am_step] at h
  split at h
  · cases h
    exact lv_ladd hx hb (am_dec_1 hd rfl rfl) (kk _ _ _ _ _ hH hS hL hcs rfl)
  · cases h
theorem sm_lmul (hC : am_C p s m args meth c D cy X b S0 y r) : am_Sim p l e R s m args below meth c Q D cy X b S0 y r (.lmul) := by
  intro x pc L st σ pc' L' st' σ' H locs ls cells slots hd hk h hH hS hL hR hA hcs hcl hsl kk
  obtain ⟨hx, hb, -, hml, hown, hts, hE, -, hini, hscr⟩ := hC
  dsimp only [am_step] at h
  split at h
  · cases h
    exact lv_lmul hx hb (am_dec_1 hd rfl rfl) (kk _ _ _ _ _ hH hS hL hcs rfl)
  · cases h
theorem sm_land (hC : am_C p s m args meth c D cy X b S0 y r) : am_Sim p l e R s m args below meth c Q D cy X b S0 y r (.land) := by
  intro x pc L st σ pc' L' st' σ' H locs ls cells slots hd hk h hH hS hL hR hA hcs hcl hsl kk
  obtain ⟨hx, hb, -, hml, hown, hts, hE, -, hini, hscr⟩ := hC
  dsimp only [am_step] at h
  split at h
  · cases h
    exact lv_land hx hb (am_dec_1 hd rfl rfl) (kk _ _ _ _ _ hH hS hL hcs rfl)
  · cases h
theorem sm_iushr (hC : am_C p s m args meth c D cy X b S0 y r) : am_Sim p l e R s m args below meth c Q D cy X b S0 y r (.iushr) := by
  intro x pc L st σ pc' L' st' σ' H locs ls cells slots hd hk h hH hS hL hR hA hcs hcl hsl kk
  obtain ⟨hx, hb, -, hml, hown, hts, hE, -, hini, hscr⟩ := hC
  dsimp only [am_step] at h
  split at h
  · cases h
    exact lv_iushr hx hb (am_dec_1 hd rfl rfl) rfl (kk _ _ _ _ _ hH hS hL hcs rfl)
  · cases h
theorem sm_i2l (hC : am_C p s m args meth c D cy X b S0 y r) : am_Sim p l e R s m args below meth c Q D cy X b S0 y r (.i2l) := by
  intro x pc L st σ pc' L' st' σ' H locs ls cells slots hd hk h hH hS hL hR hA hcs hcl hsl kk
  obtain ⟨hx, hb, -, hml, hown, hts, hE, -, hini, hscr⟩ := hC
  dsimp only [am_step] at h
  split at h
  · cases h
    exact lv_i2l hx hb (am_dec_1 hd rfl rfl) rfl (kk _ _ _ _ _ hH hS hL hcs rfl)
  · cases h
theorem sm_l2i (hC : am_C p s m args meth c D cy X b S0 y r) : am_Sim p l e R s m args below meth c Q D cy X b S0 y r (.l2i) := by
  intro x pc L st σ pc' L' st' σ' H locs ls cells slots hd hk h hH hS hL hR hA hcs hcl hsl kk
  obtain ⟨hx, hb, -, hml, hown, hts, hE, -, hini, hscr⟩ := hC
  dsimp only [am_step] at h
  split at h
  · cases h
    exact lv_l2i hx hb (am_dec_1 hd rfl rfl) rfl (kk _ _ _ _ _ hH hS hL hcs rfl)
  · cases h
theorem sm_i2b (hC : am_C p s m args meth c D cy X b S0 y r) : am_Sim p l e R s m args below meth c Q D cy X b S0 y r (.i2b) := by
  intro x pc L st σ pc' L' st' σ' H locs ls cells slots hd hk h hH hS hL hR hA hcs hcl hsl kk
  obtain ⟨hx, hb, -, hml, hown, hts, hE, -, hini, hscr⟩ := hC
  dsimp only [am_step] at h
  split at h
  · cases h
    exact lv_i2b hx hb (am_dec_1 hd rfl rfl) rfl (kk _ _ _ _ _ hH hS hL hcs rfl)
  · cases h
theorem sm_idiv (hC : am_C p s m args meth c D cy X b S0 y r) : am_Sim p l e R s m args below meth c Q D cy X b S0 y r (.idiv) := by
  intro x pc L st σ pc' L' st' σ' H locs ls cells slots hd hk h hH hS hL hR hA hcs hcl hsl kk
  obtain ⟨hx, hb, -, hml, hown, hts, hE, -, hini, hscr⟩ := hC
  dsimp only [am_step] at h
  split at h
  · split at h
    · cases h
    · rename_i hne
      cases h
      exact lv_idiv hx hb (am_dec_1 hd rfl rfl) hne (kk _ _ _ _ _ hH hS hL hcs rfl)
  · cases h
theorem sm_irem (hC : am_C p s m args meth c D cy X b S0 y r) : am_Sim p l e R s m args below meth c Q D cy X b S0 y r (.irem) := by
  intro x pc L st σ pc' L' st' σ' H locs ls cells slots hd hk h hH hS hL hR hA hcs hcl hsl kk
  obtain ⟨hx, hb, -, hml, hown, hts, hE, -, hini, hscr⟩ := hC
  dsimp only [am_step] at h
  split at h
  · split at h
    · cases h
    · rename_i hne
      cases h
      exact lv_irem hx hb (am_dec_1 hd rfl rfl) hne (kk _ _ _ _ _ hH hS hL hcs rfl)
  · cases h
theorem sm_ldiv (hC : am_C p s m args meth c D cy X b S0 y r) : am_Sim p l e R s m args below meth c Q D cy X b S0 y r (.ldiv) := by
  intro x pc L st σ pc' L' st' σ' H locs ls cells slots hd hk h hH hS hL hR hA hcs hcl hsl kk
  obtain ⟨hx, hb, -, hml, hown, hts, hE, -, hini, hscr⟩ := hC
  dsimp only [am_step] at h
  split at h
  · split at h
    · cases h
    · rename_i hne
      cases h
      exact lv_ldiv hx hb (am_dec_1 hd rfl rfl) hne (kk _ _ _ _ _ hH hS hL hcs rfl)
  · cases h
theorem sm_lrem (hC : am_C p s m args meth c D cy X b S0 y r) : am_Sim p l e R s m args below meth c Q D cy X b S0 y r (.lrem) := by
  intro x pc L st σ pc' L' st' σ' H locs ls cells slots hd hk h hH hS hL hR hA hcs hcl hsl kk
  obtain ⟨hx, hb, -, hml, hown, hts, hE, -, hini, hscr⟩ := hC
  dsimp only [am_step] at h
  split at h
  · split at h
    · cases h
    · rename_i hne
      cases h
      exact lv_lrem hx hb (am_dec_1 hd rfl rfl) hne (kk _ _ _ _ _ hH hS hL hcs rfl)
  · cases h
theorem sm_lcmp (hC : am_C p s m args meth c D cy X b S0 y r) : am_Sim p l e R s m args below meth c Q D cy X b S0 y r (.lcmp) := by
  intro x pc L st σ pc' L' st' σ' H locs ls cells slots hd hk h hH hS hL hR hA hcs hcl hsl kk
  obtain ⟨hx, hb, -, hml, hown, hts, hE, -, hini, hscr⟩ := hC
  dsimp only [am_step] at h
  split at h
  · cases h
    exact W.lcmp hx hb (am_dec_1 hd rfl rfl) (kk _ _ _ _ _ hH hS hL hcs rfl)
  · cases h
theorem sm_goto {n : Int} (hC : am_C p s m args meth c D cy X b S0 y r) : am_Sim p l e R s m args below meth c Q D cy X b S0 y r (.goto n) := by
  intro x pc L st σ pc' L' st' σ' H locs ls cells slots hd hk h hH hS hL hR hA hcs hcl hsl kk
  obtain ⟨hx, hb, -, hml, hown, hts, hE, -, hini, hscr⟩ := hC
  dsimp only [am_step] at h
  split at h
  · cases h
    exact lv_goto hx hb (am_dec_1 hd rfl rfl) (of_decide_eq_true hk) (kk _ _ _ _ _ hH hS hL hcs rfl)
  · cases h
theorem sm_if_eq {n : Int} (hC : am_C p s m args meth c D cy X b S0 y r) : am_Sim p l e R s m args below meth c Q D cy X b S0 y r (.ifCond .eq n) := by
  intro x pc L st σ pc' L' st' σ' H locs ls cells slots hd hk h hH hS hL hR hA hcs hcl hsl kk
  obtain ⟨hx, hb, -, hml, hown, hts, hE, -, hini, hscr⟩ := hC
  dsimp only [am_step] at h
  split at h
  · split at h
    · rename_i hc
      cases h
      exact lv_if_eq hx hb (am_dec_1 hd rfl rfl) (of_decide_eq_true hk) (fun _ => (kk _ _ _ _ _ hH hS hL hcs rfl)) (fun hn => absurd hc hn)
    · rename_i hc
      cases h
      exact lv_if_eq hx hb (am_dec_1 hd rfl rfl) (of_decide_eq_true hk) (fun hn => absurd hn hc) (fun _ => (kk _ _ _ _ _ hH hS hL hcs rfl))
  · cases h
theorem sm_if_ne {n : Int} (hC : am_C p s m args meth c D cy X b S0 y r) : am_Sim p l e R s m args below meth c Q D cy X b S0 y r (.ifCond .ne n) := by
  intro x pc L st σ pc' L' st' σ' H locs ls cells slots hd hk h hH hS hL hR hA hcs hcl hsl kk
  obtain ⟨hx, hb, -, hml, hown, hts, hE, -, hini, hscr⟩ := hC
  dsimp only [am_step] at h
  split at h
  · split at h
    · rename_i hc
      cases h
      exact lv_if_ne hx hb (am_dec_1 hd rfl rfl) (of_decide_eq_true hk) (fun hn => absurd hc hn) (fun _ => (kk _ _ _ _ _ hH hS hL hcs rfl))
    · rename_i hc
      cases h
      exact lv_if_ne hx hb (am_dec_1 hd rfl rfl) (of_decide_eq_true hk) (fun _ => (kk _ _ _ _ _ hH hS hL hcs rfl)) (fun hn => absurd hn hc)
  · cases h
theorem sm_if_lt {n : Int} (hC : am_C p s m args meth c D cy X b S0 y r) : am_Sim p l e R s m args below meth c Q D cy X b S0 y r (.ifCond .lt n) := by
  intro x pc L st σ pc' L' st' σ' H locs ls cells slots hd hk h hH hS hL hR hA hcs hcl hsl kk
  obtain ⟨hx, hb, -, hml, hown, hts, hE, -, hini, hscr⟩ := hC
  dsimp only [am_step] at h
  split at h
  · split at h
    · rename_i hc
      cases h
      exact lv_if_lt hx hb (am_dec_1 hd rfl rfl) (of_decide_eq_true hk) (fun _ => (kk _ _ _ _ _ hH hS hL hcs rfl)) (fun hn => absurd hc hn)
    · rename_i hc
      cases h
      exact lv_if_lt hx hb (am_dec_1 hd rfl rfl) (of_decide_eq_true hk) (fun hn => absurd hn hc) (fun _ => (kk _ _ _ _ _ hH hS hL hcs rfl))
  · cases h
theorem sm_if_ge {n : Int} (hC : am_C p s m args meth c D cy X b S0 y r) : am_Sim p l e R s m args below meth c Q D cy X b S0 y r (.ifCond .ge n) := by
  intro x pc L st σ pc' L' st' σ' H locs ls cells slots hd hk h hH hS hL hR hA hcs hcl hsl kk
  obtain ⟨hx, hb, -, hml, hown, hts, hE, -, hini, hscr⟩ := hC
  dsimp only [am_step] at h
  split at h
  · split at h
    · rename_i hc
      cases h
      exact lv_if_ge hx hb (am_dec_1 hd rfl rfl) (of_decide_eq_true hk) (fun _ => (kk _ _ _ _ _ hH hS hL hcs rfl)) (fun hn => absurd hc hn)
    · rename_i hc
      cases h
      exact lv_if_ge hx hb (am_dec_1 hd rfl rfl) (of_decide_eq_true hk) (fun hn => absurd hn hc) (fun _ => (kk _ _ _ _ _ hH hS hL hcs rfl))
  · cases h
theorem sm_if_gt {n : Int} (hC : am_C p s m args meth c D cy X b S0 y r) : am_Sim p l e R s m args below meth c Q D cy X b S0 y r (.ifCond .gt n) := by
  intro x pc L st σ pc' L' st' σ' H locs ls cells slots hd hk h hH hS hL hR hA hcs hcl hsl kk
  obtain ⟨hx, hb, -, hml, hown, hts, hE, -, hini, hscr⟩ := hC
  dsimp only [am_step] at h
  split at h
  · split at h
    · rename_i hc
      cases h
      exact lv_if_gt hx hb (am_dec_1 hd rfl rfl) (of_decide_eq_true hk) (fun _ => (kk _ _ _ _ _ hH hS hL hcs rfl)) (fun hn => absurd hc hn)
    · rename_i hc
      cases h
      exact lv_if_gt hx hb (am_dec_1 hd rfl rfl) (of_decide_eq_true hk) (fun hn => absurd hn hc) (fun _ => (kk _ _ _ _ _ hH hS hL hcs rfl))
  · cases h
theorem sm_if_le {n : Int} (hC : am_C p s m args meth c D cy X b S0 y r) : am_Sim p l e R s m args below meth c Q D cy X b S0 y r (.ifCond .le n) := by
  intro x pc L st σ pc' L' st' σ' H locs ls cells slots hd hk h hH hS hL hR hA hcs hcl hsl kk
  obtain ⟨hx, hb, -, hml, hown, hts, hE, -, hini, hscr⟩ := hC
  dsimp only [am_step] at h
  split at h
  · split at h
    · rename_i hc
      cases h
      exact lv_if_le hx hb (am_dec_1 hd rfl rfl) (of_decide_eq_true hk) (fun _ => (kk _ _ _ _ _ hH hS hL hcs rfl)) (fun hn => absurd hc hn)
    · rename_i hc
      cases h
      exact lv_if_le hx hb (am_dec_1 hd rfl rfl) (of_decide_eq_true hk) (fun hn => absurd hn hc) (fun _ => (kk _ _ _ _ _ hH hS hL hcs rfl))
  · cases h
theorem sm_icmp_eq {n : Int} (hC : am_C p s m args meth c D cy X b S0 y r) : am_Sim p l e R s m args below meth c Q D cy X b S0 y r (.if_icmp .eq n) := by
  intro x pc L st σ pc' L' st' σ' H locs ls cells slots hd hk h hH hS hL hR hA hcs hcl hsl kk
  obtain ⟨hx, hb, -, hml, hown, hts, hE, -, hini, hscr⟩ := hC
  dsimp only [am_step] at h
  split at h
  · split at h
    · rename_i hc
      cases h
      exact lv_icmp_eq hx hb (am_dec_1 hd rfl rfl) (of_decide_eq_true hk) (fun _ => (kk _ _ _ _ _ hH hS hL hcs rfl)) (fun hn => absurd hc hn)
    · rename_i hc
      cases h
      exact lv_icmp_eq hx hb (am_dec_1 hd rfl rfl) (of_decide_eq_true hk) (fun hn => absurd hn hc) (fun _ => (kk _ _ _ _ _ hH hS hL hcs rfl))
  · cases h
theorem sm_icmp_ne {n : Int} (hC : am_C p s m args meth c D cy X b S0 y r) : am_Sim p l e R s m args below meth c Q D cy X b S0 y r (.if_icmp .ne n) := by
  intro x pc L st σ pc' L' st' σ' H locs ls cells slots hd hk h hH hS hL hR hA hcs hcl hsl kk
  obtain ⟨hx, hb, -, hml, hown, hts, hE, -, hini, hscr⟩ := hC
  dsimp only [am_step] at h
  split at h
  · split at h
    · rename_i hc
      cases h
      exact lv_icmp_ne hx hb (am_dec_1 hd rfl rfl) (of_decide_eq_true hk) (fun hn => absurd hc hn) (fun _ => (kk _ _ _ _ _ hH hS hL hcs rfl))
    · rename_i hc
      cases h
      exact lv_icmp_ne hx hb (am_dec_1 hd rfl rfl) (of_decide_eq_true hk) (fun _ => (kk _ _ _ _ _ hH hS hL hcs rfl)) (fun hn => absurd hn hc)
  · cases h
theorem sm_icmp_lt {n : Int} (hC : am_C p s m args meth c D cy X b S0 y r) : am_Sim p l e R s m args below meth c Q D cy X b S0 y r (.if_icmp .lt n) := by
  intro x pc L st σ pc' L' st' σ' H locs ls cells slots hd hk h hH hS hL hR hA hcs hcl hsl kk
  obtain ⟨hx, hb, -, hml, hown, hts, hE, -, hini, hscr⟩ := hC
  dsimp only [am_step] at h
  split at h
  · split at h
    · rename_i hc
      cases h
      exact lv_icmp_lt hx hb (am_dec_1 hd rfl rfl) (of_decide_eq_true hk) (fun _ => (kk _ _ _ _ _ hH hS hL hcs rfl)) (fun hn => absurd hc hn)
    · rename_i hc
      cases h
      exact lv_icmp_lt hx hb (am_dec_1 hd rfl rfl) (of_decide_eq_true hk) (fun hn => absurd hn hc) (fun _ => (kk _ _ _ _ _ hH hS hL hcs rfl))
  · cases h
theorem sm_icmp_ge {n : Int} (hC : am_C p s m args meth c D cy X b S0 y r) : am_Sim p l e R s m args below meth c Q D cy X b S0 y r (.if_icmp .ge n) := by
  intro x pc L st σ pc' L' st' σ' H locs ls cells slots hd hk h hH hS hL hR hA hcs hcl hsl kk
  obtain ⟨hx, hb, -, hml, hown, hts, hE, -, hini, hscr⟩ := hC
  dsimp only [am_step] at h
  split at h
  · split at h
    · rename_i hc
      cases h
      exact lv_icmp_ge hx hb (am_dec_1 hd rfl rfl) (of_decide_eq_true hk) (fun _ => (kk _ _ _ _ _ hH hS hL hcs rfl)) (fun hn => absurd hc hn)
    · rename_i hc
      cases h
      exact lv_icmp_ge hx hb (am_dec_1 hd rfl rfl) (of_decide_eq_true hk) (fun hn => absurd hn hc) (fun _ => (kk _ _ _ _ _ hH hS hL hcs rfl))
  · cases h
theorem sm_icmp_gt {n : Int} (hC : am_C p s m args meth c D cy X b S0 y r) : am_Sim p l e R s m args below meth c Q D cy X b S0 y r (.if_icmp .gt n) := by
  intro x pc L st σ pc' L' st' σ' H locs ls cells slots hd hk h hH hS hL hR hA hcs hcl hsl kk
  obtain ⟨hx, hb, -, hml, hown, hts, hE, -, hini, hscr⟩ := hC
  dsimp only [am_step] at h
  split at h
  · split at h
    · rename_i hc
      cases h
      exact lv_icmp_gt hx hb (am_dec_1 hd rfl rfl) (of_decide_eq_true hk) (fun _ => (kk _ _ _ _ _ hH hS hL hcs rfl)) (fun hn => absurd hc hn)
    · rename_i hc
      cases h
      exact lv_icmp_gt hx hb (am_dec_1 hd rfl rfl) (of_decide_eq_true hk) (fun hn => absurd hn hc) (fun _ => (kk _ _ _ _ _ hH hS hL hcs rfl))
  · cases h
theorem sm_icmp_le {n : Int} (hC : am_C p s m args meth c D cy X b S0 y r) : am_Sim p l e R s m args below meth c Q D cy X b S0 y r (.if_icmp .le n) := by
  intro x pc L st σ pc' L' st' σ' H locs ls cells slots hd hk h hH hS hL hR hA hcs hcl hsl kk
  obtain ⟨hx, hb, -, hml, hown, hts, hE, -, hini, hscr⟩ := hC
  dsimp only [am_step] at h
  split at h
  · split at h
    · rename_i hc
      cases h
      exact lv_icmp_le hx hb (am_dec_1 hd rfl rfl) (of_decide_eq_true hk) (fun _ => (kk _ _ _ _ _ hH hS hL hcs rfl)) (fun hn => absurd hc hn)
    · rename_i hc
      cases h
      exact lv_icmp_le hx hb (am_dec_1 hd rfl rfl) (of_decide_eq_true hk) (fun hn => absurd hn hc) (fun _ => (kk _ _ _ _ _ hH hS hL hcs rfl))
  · cases h
theorem sm_ifnull {n : Int} (hC : am_C p s m args meth c D cy X b S0 y r) : am_Sim p l e R s m args below meth c Q D cy X b S0 y r (.ifnull n) := by
  intro x pc L st σ pc' L' st' σ' H locs ls cells slots hd hk h hH hS hL hR hA hcs hcl hsl kk
  obtain ⟨hx, hb, -, hml, hown, hts, hE, -, hini, hscr⟩ := hC
  dsimp only [am_step] at h
  split at h
  · cases h
    exact lv_ifnullN hx hb (am_dec_1 hd rfl rfl) (of_decide_eq_true hk) (kk _ _ _ _ _ hH hS hL hcs rfl)
  · cases h
    exact lv_ifnull hx hb (am_dec_1 hd rfl rfl) (kk _ _ _ _ _ hH hS hL hcs rfl)
  · cases h
theorem sm_ifnonnull {n : Int} (hC : am_C p s m args meth c D cy X b S0 y r) : am_Sim p l e R s m args below meth c Q D cy X b S0 y r (.ifnonnull n) := by
  intro x pc L st σ pc' L' st' σ' H locs ls cells slots hd hk h hH hS hL hR hA hcs hcl hsl kk
  obtain ⟨hx, hb, -, hml, hown, hts, hE, -, hini, hscr⟩ := hC
  dsimp only [am_step] at h
  split at h
  · cases h
    exact lv_ifnonnullN hx hb (am_dec_1 hd rfl rfl) (kk _ _ _ _ _ hH hS hL hcs rfl)
  · cases h
    exact lv_ifnonnull hx hb (am_dec_1 hd rfl rfl) (of_decide_eq_true hk) (kk _ _ _ _ _ hH hS hL hcs rfl)
  · cases h
end SM
