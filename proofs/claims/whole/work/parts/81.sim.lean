/-! all instructions together -/
set_option maxHeartbeats 4000000 in
theorem sm_all {p : Program} {l : Launch} {e : Env} {R : Room} {s : State} {m : MethodId} {args : Array Value} {below : List Frame} {meth : Method} {c : Code} {Q : State → Prop} {D : va_G} {cy : Nat → ClassId} {X : am_X} {b S0 y : Nat} {r : am_Row} (hC : am_C p s m args meth c D cy X b S0 y r) (ins : Instr) : am_Sim p l e R s m args below meth c Q D cy X b S0 y r ins := by
  cases ins
  case iconst => exact sm_iconst hC
  case bipush => exact sm_bipush hC
  case sipush => exact sm_sipush hC
  case lconst => exact sm_lconst hC
  case ldc_w => exact sm_ldc_w hC
  case ldc2_w => exact sm_ldc2_w hC
  case iload_n => exact sm_iload_n hC
  case iload => exact sm_iload hC
  case lload_n => exact sm_lload_n hC
  case lload => exact sm_lload hC
  case aload_n => exact sm_aload_n hC
  case aload => exact sm_aload hC
  case istore_n => exact sm_istore_n hC
  case istore => exact sm_istore hC
  case lstore_n => exact sm_lstore_n hC
  case lstore => exact sm_lstore hC
  case astore_n => exact sm_astore_n hC
  case astore => exact sm_astore hC
  case goto => exact sm_goto hC
  case ifnull => exact sm_ifnull hC
  case ifnonnull => exact sm_ifnonnull hC
  case getfield => exact sm_getfield hC
  case putfield => exact sm_putfield hC
  case new => exact sm_new hC
  case newarray => exact sm_newarray hC
  case anewarray => exact sm_anewarray hC
  case invokespecial => exact sm_invokespecial hC
  case invokestatic => exact sm_invokestatic hC
  case aconst_null => exact sm_aconst_null hC
  case pop => exact sm_pop hC
  case dup => exact sm_dup hC
  case dup2 => exact sm_dup2 hC
  case iadd => exact sm_iadd hC
  case isub => exact sm_isub hC
  case imul => exact sm_imul hC
  case idiv => exact sm_idiv hC
  case irem => exact sm_irem hC
  case ineg => exact sm_ineg hC
  case iand => exact sm_iand hC
  case ior => exact sm_ior hC
  case ixor => exact sm_ixor hC
  case ishl => exact sm_ishl hC
  case ishr => exact sm_ishr hC
  case iushr => exact sm_iushr hC
  case ladd => exact sm_ladd hC
  case lmul => exact sm_lmul hC
  case ldiv => exact sm_ldiv hC
  case lrem => exact sm_lrem hC
  case land => exact sm_land hC
  case lcmp => exact sm_lcmp hC
  case i2l => exact sm_i2l hC
  case l2i => exact sm_l2i hC
  case i2b => exact sm_i2b hC
  case arraylength => exact sm_arraylength hC
  case iaload => exact sm_iaload hC
  case baload => exact sm_baload hC
  case aaload => exact sm_aaload hC
  case iastore => exact sm_iastore hC
  case bastore => exact sm_bastore hC
  case aastore => exact sm_aastore hC
  case iinc => exact sm_iinc hC
  case tableswitch => exact sm_tableswitch hC
  case lookupswitch => exact sm_lookupswitch hC
  case multianewarray => exact sm_mna hC
  case ifCond cc off =>
    cases cc
    case eq => exact sm_if_eq hC
    case ne => exact sm_if_ne hC
    case lt => exact sm_if_lt hC
    case ge => exact sm_if_ge hC
    case gt => exact sm_if_gt hC
    case le => exact sm_if_le hC
  case if_icmp cc off =>
    cases cc
    case eq => exact sm_icmp_eq hC
    case ne => exact sm_icmp_ne hC
    case lt => exact sm_icmp_lt hC
    case ge => exact sm_icmp_ge hC
    case gt => exact sm_icmp_gt hC
    case le => exact sm_icmp_le hC
  case invokevirtual ix =>
    intro x pc L st σ pc' L' st' σ' H locs ls cells slots hd hk h
    dsimp only [am_step] at h
    split at h
    · split at h
      · split at h <;> cases h
      · cases h
    · cases h
  case ireturn =>
    intro x pc L st σ pc' L' st' σ' H locs ls cells slots hd hk h
    dsimp only [am_step] at h
    split at h
    · split at h
      · split at h <;> cases h
      · cases h
    · cases h
  case lreturn =>
    intro x pc L st σ pc' L' st' σ' H locs ls cells slots hd hk h
    dsimp only [am_step] at h
    split at h <;> cases h
  case areturn =>
    intro x pc L st σ pc' L' st' σ' H locs ls cells slots hd hk h
    dsimp only [am_step] at h
    split at h <;> cases h
  case return_ =>
    intro x pc L st σ pc' L' st' σ' H locs ls cells slots hd hk h
    dsimp only [am_step] at h
    split at h <;> cases h
  all_goals (intro x pc L st σ pc' L' st' σ' H locs ls cells slots hd hk h; cases (show (none : Option am_A) = some _ from h))
/-- what a step is -/
def am_retI (bz : Bool) (ins : Instr) (v : Option Value) : Prop := match v with
  | none => ins = .return_
  | some (.int i) => ins = .ireturn ∧ (bz = true → i = 0 ∨ i = 1)
  | some (.long _) => ins = .lreturn
  | some (.ref _) => ins = .areturn
  | some .null => ins = .areturn
  | _ => False
def am_post (bz : Bool) (ins : Instr) (x : List Nat) (pc : Nat) (st : List Value) (σ : am_M) (a : am_A) : Prop := match a with
  | .inl q => (am_S σ).length ≤ (am_S q.2.2.2).length ∧ am_nS σ ≤ am_nS q.2.2.2
  | .inr (.inl q) => am_retI bz ins q.1 ∧ st = q.1.toList ∧ q.2 = σ
  | .inr (.inr q) => q.2.2.2 = pc + 3 ∧ q.2.2.1.length ≤ 4 ∧ ((∃ ix n ci w o as0, ins = .invokevirtual ix ∧ x = [q.1, n, ci, w] ∧ q.2.1 = .ref o :: as0 ∧ st = as0.reverse ++ .ref o :: q.2.2.1 ∧ am_kd σ o = ci ∧ as0.length = n) ∨
      (∃ ix k n w o as0, ins = .invokespecial ix ∧ x = [k, q.1, n, w] ∧ q.2.1 = .ref o :: as0 ∧ st = as0.reverse ++ .ref o :: q.2.2.1 ∧ as0.length = n) ∨
      (∃ ix k n w, ins = .invokestatic ix ∧ x = [k, q.1, n, w] ∧ st = q.2.1.reverse ++ q.2.2.1 ∧ q.2.1.length = n))
theorem am_tk {st rest : List Value} {n : Nat} (h : st.drop n = rest) : st = (st.take n).reverse.reverse ++ rest := by
  rw [List.reverse_reverse, ← h, List.take_append_drop]
set_option maxHeartbeats 8000000 in
theorem am_step_post {X : am_X} {y : Nat} {g bz : Bool} {ins : Instr} {x : List Nat} {pc : Nat} {L : am_L} {st : List Value} {σ : am_M} {a : am_A} (h : am_step X y g bz ins x pc L st σ = some a) : am_post bz ins x pc st σ a := by
  have rf : ∀ {pc' : Nat} {L' : am_L} {st' : List Value}, am_post bz ins x pc st σ (.inl (pc', L', st', σ)) := ⟨Nat.le_refl _, Nat.le_refl _⟩
  cases ins
  case iconst => cases h; exact rf
  case bipush => cases h; exact rf
  case sipush => cases h; exact rf
  case lconst => cases h; exact rf
  case aconst_null => cases h; exact rf
  case ldc_w => dsimp only [am_step] at h; split at h <;> first | (cases h; exact rf) | cases h
  case ldc2_w => dsimp only [am_step] at h; split at h <;> first | (cases h; exact rf) | cases h
  case iload_n => dsimp only [am_step] at h; split at h <;> first | (cases h; exact rf) | cases h
  case iload => dsimp only [am_step] at h; split at h <;> first | (cases h; exact rf) | cases h
  case lload_n => dsimp only [am_step] at h; split at h <;> first | (cases h; exact rf) | cases h
  case lload => dsimp only [am_step] at h; split at h <;> first | (cases h; exact rf) | cases h
  case aload_n => dsimp only [am_step] at h; split at h <;> first | (cases h; exact rf) | cases h
  case aload => dsimp only [am_step] at h; split at h <;> first | (cases h; exact rf) | cases h
  case iadd => dsimp only [am_step] at h; split at h <;> first | (cases h; exact rf) | cases h
  case isub => dsimp only [am_step] at h; split at h <;> first | (cases h; exact rf) | cases h
  case imul => dsimp only [am_step] at h; split at h <;> first | (cases h; exact rf) | cases h
  case ineg => dsimp only [am_step] at h; split at h <;> first | (cases h; exact rf) | cases h
  case iand => dsimp only [am_step] at h; split at h <;> first | (cases h; exact rf) | cases h
  case ior => dsimp only [am_step] at h; split at h <;> first | (cases h; exact rf) | cases h
  case ixor => dsimp only [am_step] at h; split at h <;> first | (cases h; exact rf) | cases h
  case ishl => dsimp only [am_step] at h; split at h <;> first | (cases h; exact rf) | cases h
  case ishr => dsimp only [am_step] at h; split at h <;> first | (cases h; exact rf) | cases h
  case iushr => dsimp only [am_step] at h; split at h <;> first | (cases h; exact rf) | cases h
  case ladd => dsimp only [am_step] at h; split at h <;> first | (cases h; exact rf) | cases h
  case lmul => dsimp only [am_step] at h; split at h <;> first | (cases h; exact rf) | cases h
  case land => dsimp only [am_step] at h; split at h <;> first | (cases h; exact rf) | cases h
  case lcmp => dsimp only [am_step] at h; split at h <;> first | (cases h; exact rf) | cases h
  case i2l => dsimp only [am_step] at h; split at h <;> first | (cases h; exact rf) | cases h
  case l2i => dsimp only [am_step] at h; split at h <;> first | (cases h; exact rf) | cases h
  case i2b => dsimp only [am_step] at h; split at h <;> first | (cases h; exact rf) | cases h
  case goto => dsimp only [am_step] at h; split at h <;> first | (cases h; exact rf) | cases h
  case ifnull => dsimp only [am_step] at h; split at h <;> first | (cases h; exact rf) | cases h
  case ifnonnull => dsimp only [am_step] at h; split at h <;> first | (cases h; exact rf) | cases h
  case tableswitch => dsimp only [am_step] at h; split at h <;> first | (cases h; exact rf) | cases h
  case lookupswitch => dsimp only [am_step] at h; split at h <;> first | (cases h; exact rf) | cases h
  case pop => dsimp only [am_step] at h; split at h <;> first | (split at h <;> first | (cases h; exact ⟨Nat.le_refl _, Nat.le_refl _⟩) | cases h) | cases h
  case dup => dsimp only [am_step] at h; split at h <;> first | (split at h <;> first | (cases h; exact ⟨Nat.le_refl _, Nat.le_refl _⟩) | cases h) | cases h
  case dup2 => dsimp only [am_step] at h; split at h <;> first | (split at h <;> first | (cases h; exact ⟨Nat.le_refl _, Nat.le_refl _⟩) | cases h) | cases h
  case idiv => dsimp only [am_step] at h; split at h <;> first | (split at h <;> first | (cases h; exact ⟨Nat.le_refl _, Nat.le_refl _⟩) | cases h) | cases h
  case irem => dsimp only [am_step] at h; split at h <;> first | (split at h <;> first | (cases h; exact ⟨Nat.le_refl _, Nat.le_refl _⟩) | cases h) | cases h
  case ldiv => dsimp only [am_step] at h; split at h <;> first | (split at h <;> first | (cases h; exact ⟨Nat.le_refl _, Nat.le_refl _⟩) | cases h) | cases h
  case lrem => dsimp only [am_step] at h; split at h <;> first | (split at h <;> first | (cases h; exact ⟨Nat.le_refl _, Nat.le_refl _⟩) | cases h) | cases h
  case arraylength => dsimp only [am_step] at h; split at h <;> first | (split at h <;> first | (cases h; exact ⟨Nat.le_refl _, Nat.le_refl _⟩) | cases h) | cases h
  case iaload => dsimp only [am_step] at h; split at h <;> first | (split at h <;> first | (cases h; exact ⟨Nat.le_refl _, Nat.le_refl _⟩) | cases h) | cases h
  case baload => dsimp only [am_step] at h; split at h <;> first | (split at h <;> first | (cases h; exact ⟨Nat.le_refl _, Nat.le_refl _⟩) | cases h) | cases h
  case aaload => dsimp only [am_step] at h; split at h <;> first | (split at h <;> first | (cases h; exact ⟨Nat.le_refl _, Nat.le_refl _⟩) | cases h) | cases h
  case iastore => dsimp only [am_step] at h; split at h <;> first | (split at h <;> first | (cases h; exact ⟨Nat.le_refl _, Nat.le_refl _⟩) | cases h) | cases h
  case bastore => dsimp only [am_step] at h; split at h <;> first | (split at h <;> first | (cases h; exact ⟨Nat.le_refl _, Nat.le_refl _⟩) | cases h) | cases h
  case aastore => dsimp only [am_step] at h; split at h <;> first | (split at h <;> first | (cases h; exact ⟨Nat.le_refl _, Nat.le_refl _⟩) | cases h) | cases h
  case getfield => dsimp only [am_step] at h; split at h <;> first | (split at h <;> first | (cases h; exact ⟨Nat.le_refl _, Nat.le_refl _⟩) | cases h) | cases h
  case putfield => dsimp only [am_step] at h; split at h <;> first | (split at h <;> first | (cases h; exact ⟨Nat.le_refl _, Nat.le_refl _⟩) | cases h) | cases h
  case istore_n => dsimp only [am_step] at h; split at h <;> first | (unfold am_nL at h; split at h <;> first | (cases h; exact rf) | cases h) | cases h
  case istore => dsimp only [am_step] at h; split at h <;> first | (unfold am_nL at h; split at h <;> first | (cases h; exact rf) | cases h) | cases h
  case lstore_n => dsimp only [am_step] at h; split at h <;> first | (unfold am_nL at h; split at h <;> first | (cases h; exact rf) | cases h) | cases h
  case lstore => dsimp only [am_step] at h; split at h <;> first | (unfold am_nL at h; split at h <;> first | (cases h; exact rf) | cases h) | cases h
  case astore_n => dsimp only [am_step] at h; split at h <;> first | (unfold am_nL at h; split at h <;> first | (cases h; exact rf) | cases h) | cases h
  case astore => dsimp only [am_step] at h; split at h <;> first | (unfold am_nL at h; split at h <;> first | (cases h; exact rf) | cases h) | cases h
  case iinc => dsimp only [am_step] at h; split at h <;> first | (unfold am_nL at h; split at h <;> first | (cases h; exact rf) | cases h) | cases h
  case ifCond cc off => cases cc <;> dsimp only [am_step] at h <;> split at h <;> first | (split at h <;> first | (cases h; exact rf) | cases h) | cases h
  case if_icmp cc off => cases cc <;> dsimp only [am_step] at h <;> split at h <;> first | (split at h <;> first | (cases h; exact rf) | cases h) | cases h
  case new =>
    dsimp only [am_step] at h
    split at h
    · cases h
      exact ⟨by rw [am_S_new]; omega, by rw [am_nS_new]; omega⟩
    · cases h
  case newarray =>
    dsimp only [am_step] at h
    split at h
    · split at h
      · cases h
        exact ⟨by rw [am_S_new]; omega, by rw [am_nS_new]; omega⟩
      · cases h
    · cases h
  case anewarray =>
    dsimp only [am_step] at h
    split at h
    · split at h
      · cases h
        exact ⟨by rw [am_S_new]; omega, by rw [am_nS_new]; omega⟩
      · cases h
    · cases h
  case multianewarray =>
    dsimp only [am_step] at h
    split at h
    · split at h
      · cases h
        have e1 : (am_S (am_rows (am_new2 (am_new σ 25 4) 4) (am_S σ).length)).length = (am_S σ).length + 1 + 1 + 1 + 1 + 1 := by
          show (am_S (am_new (am_new (am_new (am_new (am_new σ 25 4) 20 4) 20 4) 20 4) 20 4)).length = _
          rw [am_S_new, am_S_new, am_S_new, am_S_new, am_S_new]
        have e2 : am_nS (am_rows (am_new2 (am_new σ 25 4) 4) (am_S σ).length) = am_nS σ + 4 + 4 + 4 + 4 + 4 := by
          show am_nS (am_new (am_new (am_new (am_new (am_new σ 25 4) 20 4) 20 4) 20 4) 20 4) = _
          rw [am_nS_new, am_nS_new, am_nS_new, am_nS_new, am_nS_new]
        exact ⟨by rw [e1]; omega, by rw [e2]; omega⟩
      · cases h
    · cases h
  case invokevirtual =>
    dsimp only [am_step] at h
    split at h
    · split at h
      · rename_i heq1 heq2
        split at h
        · rename_i hc
          obtain ⟨h1, h2, h3⟩ := hc
          cases h
          exact ⟨rfl, Nat.le_of_ble_eq_true h2, Or.inl ⟨_, _, _, _, _, _, rfl, rfl, rfl, am_tk ‹_›, h1, h3⟩⟩
        · cases h
      · cases h
    · cases h
  case invokespecial =>
    dsimp only [am_step] at h
    split at h
    · split at h
      · cases h
        exact rf
      · cases h
    · split at h
      · split at h
        · rename_i hc
          obtain ⟨h2, h3⟩ := hc
          cases h
          exact ⟨rfl, Nat.le_of_ble_eq_true h2, Or.inr (Or.inl ⟨_, _, _, _, _, _, rfl, rfl, rfl, am_tk ‹_›, h3⟩)⟩
        · cases h
      · cases h
    · cases h
  case invokestatic =>
    dsimp only [am_step] at h
    split at h
    · split at h
      · cases h
        exact ⟨Nat.le_refl _, Nat.le_refl _⟩
      · cases h
    · split at h
      · rename_i hc
        obtain ⟨h2, h3⟩ := hc
        cases h
        exact ⟨rfl, Nat.le_of_ble_eq_true h2, Or.inr (Or.inr ⟨_, _, _, _, rfl, rfl, am_tk rfl, by rw [List.length_reverse]; exact h3⟩)⟩
      · cases h
    · cases h
  case ireturn =>
    dsimp only [am_step] at h
    split at h
    · split at h
      · split at h
        · rename_i h2
          cases h
          exact ⟨⟨rfl, fun _ => h2⟩, rfl, rfl⟩
        · cases h
      · rename_i h2
        cases h
        exact ⟨⟨rfl, fun h3 => absurd h3 h2⟩, rfl, rfl⟩
    · cases h
  case lreturn =>
    dsimp only [am_step] at h
    split at h
    · cases h
      exact ⟨rfl, rfl, rfl⟩
    · cases h
  case areturn =>
    dsimp only [am_step] at h
    split at h
    · cases h
      exact ⟨rfl, rfl, rfl⟩
    · cases h
      exact ⟨rfl, rfl, rfl⟩
    · cases h
  case return_ =>
    dsimp only [am_step] at h
    split at h
    · cases h
      exact ⟨rfl, rfl, rfl⟩
    · cases h
  all_goals (cases (show (none : Option am_A) = some _ from h))
