/-! one instruction as an equation of am_w; the generated rows (s<method>_<place>) are instances of these */ -/
def am_wC (σ : am_M) (a b i j n : Nat) : am_M := (am_cpy σ.1 a b i j n, σ.2)
section EE
variable {X : am_X} {d y pc : Nat} {L : am_L} {st : List Value} {σ : am_M} {g bz : Bool}
theorem va_rf_s (k : Nat) : va_rf (some k) = .ref k := rfl
theorem va_rf_n : va_rf none = .null := rfl
theorem am_pu_s (v : Value) (r : List Value) : am_pu (some v) r = v :: r := rfl
theorem am_pu_n (r : List Value) : am_pu none r = r := rfl
theorem e_iconst {n : Int} {v : Int32} (hf : am_fe y pc = some (g, bz, .iconst n, [])) (hv : Int32.ofInt n = v) : am_w X d y pc L st σ = am_w X d y (pc + 1) L (.int v :: st) σ := by rw [← hv]; exact am_s hf
theorem e_bipush {n : Int} {v : Int32} (hf : am_fe y pc = some (g, bz, .bipush n, [])) (hv : (Int8.ofInt n).toInt32 = v) : am_w X d y pc L st σ = am_w X d y (pc + 2) L (.int v :: st) σ := by rw [← hv]; exact am_s hf
theorem e_sipush {n : Int} {v : Int32} (hf : am_fe y pc = some (g, bz, .sipush n, [])) (hv : (Int16.ofInt n).toInt32 = v) : am_w X d y pc L st σ = am_w X d y (pc + 3) L (.int v :: st) σ := by rw [← hv]; exact am_s hf
theorem e_lconst {n : Fin 2} {v : Int64} (hf : am_fe y pc = some (g, bz, .lconst n, [])) (hv : Int64.ofNat n = v) : am_w X d y pc L st σ = am_w X d y (pc + 1) L (.long v :: st) σ := by rw [← hv]; exact am_s hf
theorem e_aconst_null (hf : am_fe y pc = some (g, bz, .aconst_null, [])) : am_w X d y pc L st σ = am_w X d y (pc + 1) L (.null :: st) σ := am_s hf
theorem e_ldc_w {ix k w : Nat} {v : Int32} (hf : am_fe y pc = some (g, bz, .ldc_w ix, [k, w])) (hv : Int32.ofNat k = v) : am_w X d y pc L st σ = am_w X d y (pc + 3) L (.int v :: st) σ := by rw [← hv]; exact am_s hf
theorem e_ldc2_w {ix k w : Nat} {v : Int64} (hf : am_fe y pc = some (g, bz, .ldc2_w ix, [0, k, w])) (hv : Int64.ofNat k = v) : am_w X d y pc L st σ = am_w X d y (pc + 3) L (.long v :: st) σ := by rw [← hv]; exact am_s hf
theorem e_ldc2_wm {ix k w : Nat} {v : Int64} (hf : am_fe y pc = some (g, bz, .ldc2_w ix, [1, k, w])) (hv : - Int64.ofNat k = v) : am_w X d y pc L st σ = am_w X d y (pc + 3) L (.long v :: st) σ := by rw [← hv]; exact am_s hf
theorem e_iload_n {k : Fin 4} {a : Int32} (hf : am_fe y pc = some (g, bz, .iload_n k, [])) (h : am_get L k = some (.int a)) : am_w X d y pc L st σ = am_w X d y (pc + 1) L (.int a :: st) σ := by rw [am_s hf]; dsimp only [am_step]; rw [h]; rfl
theorem e_iload {k : Nat} {a : Int32} (hf : am_fe y pc = some (g, bz, .iload k, [])) (h : am_get L k = some (.int a)) : am_w X d y pc L st σ = am_w X d y (pc + 2) L (.int a :: st) σ := by rw [am_s hf]; dsimp only [am_step]; rw [h]; rfl
theorem e_lload_n {k : Fin 4} {a : Int64} (hf : am_fe y pc = some (g, bz, .lload_n k, [])) (h : am_get L k = some (.long a)) : am_w X d y pc L st σ = am_w X d y (pc + 1) L (.long a :: st) σ := by rw [am_s hf]; dsimp only [am_step]; rw [h]; rfl
theorem e_lload {k : Nat} {a : Int64} (hf : am_fe y pc = some (g, bz, .lload k, [])) (h : am_get L k = some (.long a)) : am_w X d y pc L st σ = am_w X d y (pc + 2) L (.long a :: st) σ := by rw [am_s hf]; dsimp only [am_step]; rw [h]; rfl
theorem e_aload_n {k : Fin 4} {a : Nat} (hf : am_fe y pc = some (g, bz, .aload_n k, [])) (h : am_get L k = some (.ref a)) : am_w X d y pc L st σ = am_w X d y (pc + 1) L (.ref a :: st) σ := by rw [am_s hf]; dsimp only [am_step]; rw [h]; rfl
theorem e_aload_nD {k : Fin 4} {a : UInt64} (hf : am_fe y pc = some (g, bz, .aload_n k, [])) (h : am_get L k = some (.double a)) : am_w X d y pc L st σ = am_w X d y (pc + 1) L (.double a :: st) σ := by rw [am_s hf]; dsimp only [am_step]; rw [h]; rfl
theorem e_aload_nN {k : Fin 4} (hf : am_fe y pc = some (g, bz, .aload_n k, [])) (h : am_get L k = some .null) : am_w X d y pc L st σ = am_w X d y (pc + 1) L (.null :: st) σ := by rw [am_s hf]; dsimp only [am_step]; rw [h]; rfl
theorem e_aload {k : Nat} {a : Nat} (hf : am_fe y pc = some (g, bz, .aload k, [])) (h : am_get L k = some (.ref a)) : am_w X d y pc L st σ = am_w X d y (pc + 2) L (.ref a :: st) σ := by rw [am_s hf]; dsimp only [am_step]; rw [h]; rfl
theorem e_aloadN {k : Nat} (hf : am_fe y pc = some (g, bz, .aload k, [])) (h : am_get L k = some .null) : am_w X d y pc L st σ = am_w X d y (pc + 2) L (.null :: st) σ := by rw [am_s hf]; dsimp only [am_step]; rw [h]; rfl
theorem e_istore_n {k : Fin 4} {a : Int32} {L' : am_L} (hf : am_fe y pc = some (g, bz, .istore_n k, [])) (h : am_set g L k (.int a) = some L') : am_w X d y pc L (.int a :: st) σ = am_w X d y (pc + 1) L' st σ := by rw [am_s hf]; dsimp only [am_step]; rw [h]; rfl
theorem e_istore {k : Nat} {a : Int32} {L' : am_L} (hf : am_fe y pc = some (g, bz, .istore k, [])) (h : am_set g L k (.int a) = some L') : am_w X d y pc L (.int a :: st) σ = am_w X d y (pc + 2) L' st σ := by rw [am_s hf]; dsimp only [am_step]; rw [h]; rfl
theorem e_lstore_n {k : Fin 4} {a : Int64} {L' : am_L} (hf : am_fe y pc = some (g, bz, .lstore_n k, [])) (h : am_set2 g L k (.long a) = some L') : am_w X d y pc L (.long a :: st) σ = am_w X d y (pc + 1) L' st σ := by rw [am_s hf]; dsimp only [am_step]; rw [h]; rfl
theorem e_lstore {k : Nat} {a : Int64} {L' : am_L} (hf : am_fe y pc = some (g, bz, .lstore k, [])) (h : am_set2 g L k (.long a) = some L') : am_w X d y pc L (.long a :: st) σ = am_w X d y (pc + 2) L' st σ := by rw [am_s hf]; dsimp only [am_step]; rw [h]; rfl
theorem e_astore_n {k : Fin 4} {a : Nat} {L' : am_L} (hf : am_fe y pc = some (g, bz, .astore_n k, [])) (h : am_set g L k (.ref a) = some L') : am_w X d y pc L (.ref a :: st) σ = am_w X d y (pc + 1) L' st σ := by rw [am_s hf]; dsimp only [am_step]; rw [h]; rfl
theorem e_astore_nN {k : Fin 4} {L' : am_L} (hf : am_fe y pc = some (g, bz, .astore_n k, [])) (h : am_set g L k .null = some L') : am_w X d y pc L (.null :: st) σ = am_w X d y (pc + 1) L' st σ := by rw [am_s hf]; dsimp only [am_step]; rw [h]; rfl
theorem e_astore {k : Nat} {a : Nat} {L' : am_L} (hf : am_fe y pc = some (g, bz, .astore k, [])) (h : am_set g L k (.ref a) = some L') : am_w X d y pc L (.ref a :: st) σ = am_w X d y (pc + 2) L' st σ := by rw [am_s hf]; dsimp only [am_step]; rw [h]; rfl
theorem e_astoreN {k : Nat} {L' : am_L} (hf : am_fe y pc = some (g, bz, .astore k, [])) (h : am_set g L k .null = some L') : am_w X d y pc L (.null :: st) σ = am_w X d y (pc + 2) L' st σ := by rw [am_s hf]; dsimp only [am_step]; rw [h]; rfl
theorem e_iinc {k : Nat} {n : Int} {a v : Int32} {L' : am_L} (hf : am_fe y pc = some (g, bz, .iinc k n, [])) (h : am_get L k = some (.int a)) (hv : Int32.ofInt n = v) (h2 : am_set g L k (.int (a + v)) = some L') : am_w X d y pc L st σ = am_w X d y (pc + 3) L' st σ := by rw [am_s hf]; dsimp only [am_step]; rw [h]; dsimp only; rw [hv, h2]; rfl
theorem e_pop {v : Value} (hf : am_fe y pc = some (g, bz, .pop, [])) (h : am_isV v = true) : am_w X d y pc L (v :: st) σ = am_w X d y (pc + 1) L st σ := by rw [am_s hf]; dsimp only [am_step]; rw [if_pos h]; rfl
theorem e_dup {v : Value} (hf : am_fe y pc = some (g, bz, .dup, [])) (h : am_isV v = true) : am_w X d y pc L (v :: st) σ = am_w X d y (pc + 1) L (v :: v :: st) σ := by rw [am_s hf]; dsimp only [am_step]; rw [if_pos h]; rfl
theorem e_dup2 {v w : Value} (hf : am_fe y pc = some (g, bz, .dup2, [])) (h : (am_isV v && am_isV w) = true) : am_w X d y pc L (v :: w :: st) σ = am_w X d y (pc + 1) L (v :: w :: v :: w :: st) σ := by rw [am_s hf]; dsimp only [am_step]; rw [if_pos h]; rfl
theorem e_iadd {a b : Int32} (hf : am_fe y pc = some (g, bz, .iadd, [])) : am_w X d y pc L (.int b :: .int a :: st) σ = am_w X d y (pc + 1) L (.int (a + b) :: st) σ := am_s hf
theorem e_isub {a b : Int32} (hf : am_fe y pc = some (g, bz, .isub, [])) : am_w X d y pc L (.int b :: .int a :: st) σ = am_w X d y (pc + 1) L (.int (a - b) :: st) σ := am_s hf
theorem e_imul {a b : Int32} (hf : am_fe y pc = some (g, bz, .imul, [])) : am_w X d y pc L (.int b :: .int a :: st) σ = am_w X d y (pc + 1) L (.int (a * b) :: st) σ := am_s hf
theorem e_idiv {a b : Int32} (hf : am_fe y pc = some (g, bz, .idiv, [])) (h : ¬ b = 0) : am_w X d y pc L (.int b :: .int a :: st) σ = am_w X d y (pc + 1) L (.int (a / b) :: st) σ := by rw [am_s hf]; dsimp only [am_step]; rw [if_neg h]; rfl
theorem e_irem {a b : Int32} (hf : am_fe y pc = some (g, bz, .irem, [])) (h : ¬ b = 0) : am_w X d y pc L (.int b :: .int a :: st) σ = am_w X d y (pc + 1) L (.int (a - a / b * b) :: st) σ := by rw [am_s hf]; dsimp only [am_step]; rw [if_neg h]; rfl
theorem e_ineg {a : Int32} (hf : am_fe y pc = some (g, bz, .ineg, [])) : am_w X d y pc L (.int a :: st) σ = am_w X d y (pc + 1) L (.int (-a) :: st) σ := am_s hf
theorem e_iand {a b : Int32} (hf : am_fe y pc = some (g, bz, .iand, [])) : am_w X d y pc L (.int b :: .int a :: st) σ = am_w X d y (pc + 1) L (.int (a &&& b) :: st) σ := am_s hf
theorem e_ior {a b : Int32} (hf : am_fe y pc = some (g, bz, .ior, [])) : am_w X d y pc L (.int b :: .int a :: st) σ = am_w X d y (pc + 1) L (.int (a ||| b) :: st) σ := am_s hf
theorem e_ixor {a b : Int32} (hf : am_fe y pc = some (g, bz, .ixor, [])) : am_w X d y pc L (.int b :: .int a :: st) σ = am_w X d y (pc + 1) L (.int (a ^^^ b) :: st) σ := am_s hf
theorem e_ishl {a b : Int32} (hf : am_fe y pc = some (g, bz, .ishl, [])) : am_w X d y pc L (.int b :: .int a :: st) σ = am_w X d y (pc + 1) L (.int (a <<< (b &&& 31)) :: st) σ := am_s hf
theorem e_ishr {a b : Int32} (hf : am_fe y pc = some (g, bz, .ishr, [])) : am_w X d y pc L (.int b :: .int a :: st) σ = am_w X d y (pc + 1) L (.int (a >>> (b &&& 31)) :: st) σ := am_s hf
theorem e_iushr {a b : Int32} (hf : am_fe y pc = some (g, bz, .iushr, [])) : am_w X d y pc L (.int b :: .int a :: st) σ = am_w X d y (pc + 1) L (.int (a.toUInt32 >>> (b.toUInt32 &&& Int32.toUInt32 31)).toInt32 :: st) σ := am_s hf
theorem e_ladd {a b : Int64} (hf : am_fe y pc = some (g, bz, .ladd, [])) : am_w X d y pc L (.long b :: .long a :: st) σ = am_w X d y (pc + 1) L (.long (a + b) :: st) σ := am_s hf
theorem e_lmul {a b : Int64} (hf : am_fe y pc = some (g, bz, .lmul, [])) : am_w X d y pc L (.long b :: .long a :: st) σ = am_w X d y (pc + 1) L (.long (a * b) :: st) σ := am_s hf
theorem e_ldiv {a b : Int64} (hf : am_fe y pc = some (g, bz, .ldiv, [])) (h : ¬ b = 0) : am_w X d y pc L (.long b :: .long a :: st) σ = am_w X d y (pc + 1) L (.long (a / b) :: st) σ := by rw [am_s hf]; dsimp only [am_step]; rw [if_neg h]; rfl
theorem e_lrem {a b : Int64} (hf : am_fe y pc = some (g, bz, .lrem, [])) (h : ¬ b = 0) : am_w X d y pc L (.long b :: .long a :: st) σ = am_w X d y (pc + 1) L (.long (a - a / b * b) :: st) σ := by rw [am_s hf]; dsimp only [am_step]; rw [if_neg h]; rfl
theorem e_land {a b : Int64} (hf : am_fe y pc = some (g, bz, .land, [])) : am_w X d y pc L (.long b :: .long a :: st) σ = am_w X d y (pc + 1) L (.long (a &&& b) :: st) σ := am_s hf
theorem e_lcmp {a b : Int64} (hf : am_fe y pc = some (g, bz, .lcmp, [])) : am_w X d y pc L (.long b :: .long a :: st) σ = am_w X d y (pc + 1) L (.int (lg_cmp a b) :: st) σ := am_s hf
theorem e_i2l {a : Int32} (hf : am_fe y pc = some (g, bz, .i2l, [])) : am_w X d y pc L (.int a :: st) σ = am_w X d y (pc + 1) L (.long a.toInt64 :: st) σ := am_s hf
theorem e_l2i {a : Int64} (hf : am_fe y pc = some (g, bz, .l2i, [])) : am_w X d y pc L (.long a :: st) σ = am_w X d y (pc + 1) L (.int a.toInt32 :: st) σ := am_s hf
theorem e_i2b {a : Int32} (hf : am_fe y pc = some (g, bz, .i2b, [])) : am_w X d y pc L (.int a :: st) σ = am_w X d y (pc + 1) L (.int a.toInt8.toInt32 :: st) σ := am_s hf
theorem e_goto {n : Int} {t : Nat} (hf : am_fe y pc = some (g, bz, .goto n, [t])) : am_w X d y pc L st σ = am_w X d y t L st σ := am_s hf
theorem e_if_eq {n : Int} {t : Nat} {a : Int32} (hf : am_fe y pc = some (g, bz, .ifCond .eq n, [t])) : am_w X d y pc L (.int a :: st) σ = if a = 0 then am_w X d y t L st σ else am_w X d y (pc + 3) L st σ := by rw [am_s hf]; dsimp only [am_step]; rw [am_k_ite]; rfl
theorem e_if_ne {n : Int} {t : Nat} {a : Int32} (hf : am_fe y pc = some (g, bz, .ifCond .ne n, [t])) : am_w X d y pc L (.int a :: st) σ = if a = 0 then am_w X d y (pc + 3) L st σ else am_w X d y t L st σ := by rw [am_s hf]; dsimp only [am_step]; rw [am_k_ite]; rfl
theorem e_if_lt {n : Int} {t : Nat} {a : Int32} (hf : am_fe y pc = some (g, bz, .ifCond .lt n, [t])) : am_w X d y pc L (.int a :: st) σ = if a < 0 then am_w X d y t L st σ else am_w X d y (pc + 3) L st σ := by rw [am_s hf]; dsimp only [am_step]; rw [am_k_ite]; rfl
theorem e_if_ge {n : Int} {t : Nat} {a : Int32} (hf : am_fe y pc = some (g, bz, .ifCond .ge n, [t])) : am_w X d y pc L (.int a :: st) σ = if 0 ≤ a then am_w X d y t L st σ else am_w X d y (pc + 3) L st σ := by rw [am_s hf]; dsimp only [am_step]; rw [am_k_ite]; rfl
theorem e_if_gt {n : Int} {t : Nat} {a : Int32} (hf : am_fe y pc = some (g, bz, .ifCond .gt n, [t])) : am_w X d y pc L (.int a :: st) σ = if 0 < a then am_w X d y t L st σ else am_w X d y (pc + 3) L st σ := by rw [am_s hf]; dsimp only [am_step]; rw [am_k_ite]; rfl
theorem e_if_le {n : Int} {t : Nat} {a : Int32} (hf : am_fe y pc = some (g, bz, .ifCond .le n, [t])) : am_w X d y pc L (.int a :: st) σ = if a ≤ 0 then am_w X d y t L st σ else am_w X d y (pc + 3) L st σ := by rw [am_s hf]; dsimp only [am_step]; rw [am_k_ite]; rfl
theorem e_icmp_eq {n : Int} {t : Nat} {a b : Int32} (hf : am_fe y pc = some (g, bz, .if_icmp .eq n, [t])) : am_w X d y pc L (.int b :: .int a :: st) σ = if a = b then am_w X d y t L st σ else am_w X d y (pc + 3) L st σ := by rw [am_s hf]; dsimp only [am_step]; rw [am_k_ite]; rfl
theorem e_icmp_ne {n : Int} {t : Nat} {a b : Int32} (hf : am_fe y pc = some (g, bz, .if_icmp .ne n, [t])) : am_w X d y pc L (.int b :: .int a :: st) σ = if a = b then am_w X d y (pc + 3) L st σ else am_w X d y t L st σ := by rw [am_s hf]; dsimp only [am_step]; rw [am_k_ite]; rfl
theorem e_icmp_lt {n : Int} {t : Nat} {a b : Int32} (hf : am_fe y pc = some (g, bz, .if_icmp .lt n, [t])) : am_w X d y pc L (.int b :: .int a :: st) σ = if a < b then am_w X d y t L st σ else am_w X d y (pc + 3) L st σ := by rw [am_s hf]; dsimp only [am_step]; rw [am_k_ite]; rfl
theorem e_icmp_ge {n : Int} {t : Nat} {a b : Int32} (hf : am_fe y pc = some (g, bz, .if_icmp .ge n, [t])) : am_w X d y pc L (.int b :: .int a :: st) σ = if b ≤ a then am_w X d y t L st σ else am_w X d y (pc + 3) L st σ := by rw [am_s hf]; dsimp only [am_step]; rw [am_k_ite]; rfl
theorem e_icmp_gt {n : Int} {t : Nat} {a b : Int32} (hf : am_fe y pc = some (g, bz, .if_icmp .gt n, [t])) : am_w X d y pc L (.int b :: .int a :: st) σ = if b < a then am_w X d y t L st σ else am_w X d y (pc + 3) L st σ := by rw [am_s hf]; dsimp only [am_step]; rw [am_k_ite]; rfl
theorem e_icmp_le {n : Int} {t : Nat} {a b : Int32} (hf : am_fe y pc = some (g, bz, .if_icmp .le n, [t])) : am_w X d y pc L (.int b :: .int a :: st) σ = if a ≤ b then am_w X d y t L st σ else am_w X d y (pc + 3) L st σ := by rw [am_s hf]; dsimp only [am_step]; rw [am_k_ite]; rfl
theorem e_ifnull {n : Int} {t a : Nat} (hf : am_fe y pc = some (g, bz, .ifnull n, [t])) : am_w X d y pc L (.ref a :: st) σ = am_w X d y (pc + 3) L st σ := am_s hf
theorem e_ifnullN {n : Int} {t : Nat} (hf : am_fe y pc = some (g, bz, .ifnull n, [t])) : am_w X d y pc L (.null :: st) σ = am_w X d y t L st σ := am_s hf
theorem e_ifnonnull {n : Int} {t a : Nat} (hf : am_fe y pc = some (g, bz, .ifnonnull n, [t])) : am_w X d y pc L (.ref a :: st) σ = am_w X d y t L st σ := am_s hf
theorem e_ifnonnullN {n : Int} {t : Nat} (hf : am_fe y pc = some (g, bz, .ifnonnull n, [t])) : am_w X d y pc L (.null :: st) σ = am_w X d y (pc + 3) L st σ := am_s hf
theorem e_ts {df lo hi : Int} {os : Array Int} {t : Nat} {ts : List Nat} {a : Int32} (hf : am_fe y pc = some (g, bz, .tableswitch df lo hi os, t :: ts)) : am_w X d y pc L (.int a :: st) σ = am_w X d y (am_sw a t ts) L st σ := am_s hf
theorem e_ls {df : Int} {ps : Array (Int × Int)} {t : Nat} {ts : List Nat} {a : Int32} (hf : am_fe y pc = some (g, bz, .lookupswitch df ps, t :: ts)) : am_w X d y pc L (.int a :: st) σ = am_w X d y (am_sw a t ts) L st σ := am_s hf
theorem am_sw_c {a v : Int32} {k t df : Nat} {r : List Nat} (hk : Int32.ofNat k = v) : am_w X d y (am_sw a df (k :: t :: r)) L st σ = if a = v then am_w X d y t L st σ else am_w X d y (am_sw a df r) L st σ := by
  subst hk
  rw [am_sw]
  by_cases h : a = Int32.ofNat k
  · rw [if_pos h, if_pos h]
  · rw [if_neg h, if_neg h]
theorem am_sw_0 {a : Int32} {df : Nat} : am_w X d y (am_sw a df []) L st σ = am_w X d y df L st σ := rfl
theorem e_alenX {u : UInt64} (hf : am_fe 0 pc = some (g, bz, .arraylength, [])) : am_w X d 0 pc L (.double u :: st) σ = am_w X d 0 (pc + 1) L (.int (Int32.ofNat X.2) :: st) σ := am_s hf
theorem e_ialdX {u : UInt64} {i : Int32} (hf : am_fe 0 pc = some (g, bz, .iaload, [])) (h : (!decide (i < 0) && decide (i.toNatClampNeg < X.2)) = true) : am_w X d 0 pc L (.int i :: .double u :: st) σ = am_w X d 0 (pc + 1) L (.int (X.1 i.toNatClampNeg) :: st) σ := by
  rw [am_s hf]; dsimp only [am_step]; rw [if_pos (show (Nat.beq 0 0 && (!decide (i < 0) && decide (i.toNatClampNeg < X.2))) = true from h)]; rfl
theorem e_iald {o : Nat} {i : Int32} (hf : am_fe y pc = some (g, bz, .iaload, [])) (h : am_ix σ 20 o i = true) : am_w X d y pc L (.int i :: .ref o :: st) σ = am_w X d y (pc + 1) L (.int (am_I σ o i.toNatClampNeg) :: st) σ := by rw [am_s hf]; dsimp only [am_step]; rw [if_pos h]; rfl
theorem e_bald {o c : Nat} {i : Int32} (hf : am_fe y pc = some (g, bz, .baload, [c])) (hc : (Nat.beq c 21 || Nat.beq c 22) = true) (h : am_ix σ c o i = true) : am_w X d y pc L (.int i :: .ref o :: st) σ = am_w X d y (pc + 1) L (.int (am_I σ o i.toNatClampNeg) :: st) σ := by rw [am_s hf]; dsimp only [am_step]; rw [if_pos (by rw [hc, h]; rfl)]; rfl
theorem e_aald {o c : Nat} {i : Int32} (hf : am_fe y pc = some (g, bz, .aaload, [c])) (h : am_ix σ c o i = true) : am_w X d y pc L (.int i :: .ref o :: st) σ = am_w X d y (pc + 1) L (va_rf (am_R σ o i.toNatClampNeg) :: st) σ := by rw [am_s hf]; dsimp only [am_step]; rw [if_pos h]; rfl
theorem e_iast {o : Nat} {i v : Int32} (hf : am_fe y pc = some (g, bz, .iastore, [])) (h : am_ix σ 20 o i = true) : am_w X d y pc L (.int v :: .int i :: .ref o :: st) σ = am_w X d y (pc + 1) L st (am_wI σ o i.toNatClampNeg v) := by rw [am_s hf]; dsimp only [am_step]; rw [if_pos h]; rfl
theorem e_bast {o : Nat} {i v : Int32} (hf : am_fe y pc = some (g, bz, .bastore, [21])) (h : am_ix σ 21 o i = true) : am_w X d y pc L (.int v :: .int i :: .ref o :: st) σ = am_w X d y (pc + 1) L st (am_wI σ o i.toNatClampNeg (vp_nar .byte v)) := by rw [am_s hf]; show am_k X d y L σ (if am_ix σ 21 o i = true then am_n (pc + 1) L st (am_wI σ o i.toNatClampNeg (vp_nar .byte v)) else none) = _; rw [if_pos h]; rfl
theorem e_zast {o : Nat} {i v : Int32} (hf : am_fe y pc = some (g, bz, .bastore, [22])) (h : am_ix σ 22 o i = true) : am_w X d y pc L (.int v :: .int i :: .ref o :: st) σ = am_w X d y (pc + 1) L st (am_wI σ o i.toNatClampNeg (vp_nar .boolean v)) := by rw [am_s hf]; show am_k X d y L σ (if am_ix σ 22 o i = true then am_n (pc + 1) L st (am_wI σ o i.toNatClampNeg (vp_nar .boolean v)) else none) = _; rw [if_pos h]; rfl
theorem e_getI {ix ci k w o : Nat} (hf : am_fe y pc = some (g, bz, .getfield ix, [ci, k, 0, w])) (h : am_kd σ o = ci) : am_w X d y pc L (.ref o :: st) σ = am_w X d y (pc + 3) L (.int (am_I σ o k) :: st) σ := by rw [am_s hf]; dsimp only [am_step]; rw [if_pos h]; rfl
theorem e_getJ {ix ci k w o : Nat} (hf : am_fe y pc = some (g, bz, .getfield ix, [ci, k, 2, w])) (h : am_kd σ o = ci) : am_w X d y pc L (.ref o :: st) σ = am_w X d y (pc + 3) L (.long (am_J σ o k) :: st) σ := by rw [am_s hf]; dsimp only [am_step]; rw [if_pos h]; rfl
theorem e_getR {ix ci k w o : Nat} (hf : am_fe y pc = some (g, bz, .getfield ix, [ci, k, 3, w])) (h : am_kd σ o = ci) : am_w X d y pc L (.ref o :: st) σ = am_w X d y (pc + 3) L (va_rf (am_R σ o k) :: st) σ := by rw [am_s hf]; dsimp only [am_step]; rw [if_pos h]; rfl
theorem e_putI {ix ci k w o : Nat} {v : Int32} (hf : am_fe y pc = some (g, bz, .putfield ix, [ci, k, 0, w])) (h : am_kd σ o = ci) : am_w X d y pc L (.int v :: .ref o :: st) σ = am_w X d y (pc + 3) L st (am_wI σ o k v) := by rw [am_s hf]; show am_k X d y L σ (if am_kd σ o = ci then am_n (pc + 3) L st (am_wI σ o k v) else none) = _; rw [if_pos h]; rfl
theorem e_putZ {ix ci k w o : Nat} {v : Int32} (hf : am_fe y pc = some (g, bz, .putfield ix, [ci, k, 1, w])) (h : am_kd σ o = ci) (hv : v = 0 ∨ v = 1) : am_w X d y pc L (.int v :: .ref o :: st) σ = am_w X d y (pc + 3) L st (am_wI σ o k v) := by rw [am_s hf]; show am_k X d y L σ (if am_kd σ o = ci ∧ (v = 0 ∨ v = 1) then am_n (pc + 3) L st (am_wI σ o k v) else none) = _; rw [if_pos ⟨h, hv⟩]; rfl
theorem e_putJ {ix ci k w o : Nat} {v : Int64} (hf : am_fe y pc = some (g, bz, .putfield ix, [ci, k, 2, w])) (h : am_kd σ o = ci) : am_w X d y pc L (.long v :: .ref o :: st) σ = am_w X d y (pc + 3) L st (am_wJ σ o k v) := by rw [am_s hf]; show am_k X d y L σ (if am_kd σ o = ci then am_n (pc + 3) L st (am_wJ σ o k v) else none) = _; rw [if_pos h]; rfl
theorem e_inv {ix z n ci w o : Nat} {as rest : List Value} (hf : am_fe y pc = some (g, bz, .invokevirtual ix, [z, n, ci, w])) (hst : st = as.reverse ++ .ref o :: rest) (hn : as.length = n) (hr : Nat.ble rest.length 4 = true) (h : am_kd σ o = ci) : am_w X d y pc L st σ = (am_v X d z (.ref o :: as) σ).bind fun w => am_w X d y (pc + 3) L (am_pu w.1 rest) w.2 := by
  subst hst
  subst hn
  rw [am_s hf]
  dsimp only [am_step]
  have e1 : ((as.reverse ++ Value.ref o :: rest).take as.length).reverse = as := by
    rw [← List.length_reverse (as := as), List.take_left, List.reverse_reverse]
  have e2 : (as.reverse ++ Value.ref o :: rest).drop as.length = .ref o :: rest := by
    rw [← List.length_reverse (as := as), List.drop_left]
  rw [e1, e2]
  dsimp only
  rw [if_pos ⟨h, hr, rfl⟩]
  rfl
theorem e_invs {ix k z n w : Nat} {as rest : List Value} (hf : am_fe y pc = some (g, bz, .invokestatic ix, [k, z, n, w])) (hst : st = as.reverse ++ rest) (hn : as.length = n) (hr : Nat.ble rest.length 4 = true) : am_w X d y pc L st σ = (am_v X d z as σ).bind fun w => am_w X d y (pc + 3) L (am_pu w.1 rest) w.2 := by
  subst hst
  subst hn
  rw [am_s hf]
  dsimp only [am_step]
  have e1 : (as.reverse ++ rest).take as.length = as.reverse := by
    rw [← List.length_reverse (as := as), List.take_left]
  have e2 : (as.reverse ++ rest).drop as.length = rest := by
    rw [← List.length_reverse (as := as), List.drop_left]
  rw [e1, e2, if_pos ⟨hr, List.length_reverse⟩, List.reverse_reverse]
  rfl
theorem e_cpy {ix c w a b : Nat} {i j n : Int32} (hf : am_fe y pc = some (g, bz, .invokestatic ix, [c, w])) (h : Nat.ble st.length 4 = true ∧ am_kd σ a = c ∧ am_kd σ b = c ∧ (c = 20 ∨ (c = 22 ∧ (List.range n.toNatClampNeg).all (fun k => decide (am_I σ a (i.toNatClampNeg + k) = 0) || decide (am_I σ a (i.toNatClampNeg + k) = 1)) = true)) ∧ ¬ i < 0 ∧ ¬ j < 0 ∧ ¬ n < 0 ∧ i.toNatClampNeg + n.toNatClampNeg ≤ am_ln σ a ∧ j.toNatClampNeg + n.toNatClampNeg ≤ am_ln σ b) : am_w X d y pc L (.int n :: .int j :: .ref b :: .int i :: .ref a :: st) σ = am_w X d y (pc + 3) L st (am_wC σ a b i.toNatClampNeg j.toNatClampNeg n.toNatClampNeg) := by rw [am_s hf]; dsimp only [am_step]; rw [if_pos h]; rfl
theorem e_ireturn {v : Int32} (hf : am_fe y pc = some (g, false, .ireturn, [])) : am_w X d y pc L [.int v] σ = some (some (.int v), σ) := by rw [am_s hf]; rfl
theorem e_zreturn {v : Int32} (hf : am_fe y pc = some (g, true, .ireturn, [])) (h : v = 0 ∨ v = 1) : am_w X d y pc L [.int v] σ = some (some (.int v), σ) := by rw [am_s hf]; dsimp only [am_step]; rw [if_pos rfl, if_pos h]; rfl
theorem e_lreturn {v : Int64} (hf : am_fe y pc = some (g, bz, .lreturn, [])) : am_w X d y pc L [.long v] σ = some (some (.long v), σ) := am_s hf
theorem e_areturn {v : Nat} (hf : am_fe y pc = some (g, bz, .areturn, [])) : am_w X d y pc L [.ref v] σ = some (some (.ref v), σ) := am_s hf
theorem e_areturnN (hf : am_fe y pc = some (g, bz, .areturn, [])) : am_w X d y pc L [.null] σ = some (some .null, σ) := am_s hf
theorem e_return (hf : am_fe y pc = some (g, bz, .return_, [])) : am_w X d y pc L [] σ = some (none, σ) := am_s hf
theorem am_v_e {z : Nat} {as : List Value} {L' : am_L} (h : am_ent z as = some L') : am_v X (d + 1) z as σ = am_w X d z 0 L' [] σ := by unfold am_v; dsimp only; rw [h]
end EE
