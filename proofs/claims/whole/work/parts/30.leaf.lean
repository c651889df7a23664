/-! small numbers, and the methods that call nothing -/
def bI (c : Prop) [Decidable c] : Int32 := if c then nI 1 else nI 0
theorem bI_0 {c : Prop} [Decidable c] : (bI c = nI 0) = ¬ c := by
  unfold bI
  by_cases h : c <;> simp [h] <;> decide
theorem bI_1 {c : Prop} [Decidable c] : (bI c = nI 1) = c := by
  unfold bI
  by_cases h : c <;> simp [h] <;> decide
theorem bI_01 {c : Prop} [Decidable c] : bI c = nI 0 ∨ bI c = nI 1 := by
  unfold bI
  by_cases h : c <;> simp [h]
theorem bI_t {c : Prop} [Decidable c] (h : c) : bI c = nI 1 := if_pos h
theorem bI_f {c : Prop} [Decidable c] (h : ¬ c) : bI c = nI 0 := if_neg h
theorem bI_c {c e : Prop} [Decidable c] [Decidable e] (h : c ↔ e) : bI c = bI e := by
  unfold bI
  by_cases hc : c
  · rw [if_pos hc, if_pos (h.mp hc)]
  · rw [if_neg hc, if_neg (fun q => hc (h.mpr q))]
theorem nI_cl {n : Nat} (h : n < 2147483648) : (nI n).toNatClampNeg = n := nI_clamp h
theorem nI_LT {a b : Nat} (ha : a < 2147483648) (hb : b < 2147483648) : (nI a < nI b) = (a < b) := propext (nI_ltI ha hb)
theorem nI_LE {a b : Nat} (ha : a < 2147483648) (hb : b < 2147483648) : (nI a ≤ nI b) = (a ≤ b) := propext (nI_leI ha hb)
theorem nI_EQ {a b : Nat} (ha : a < 2147483648) (hb : b < 2147483648) : (nI a = nI b) = (a = b) := propext (nI_eq ha hb)
theorem nI_m1 {n : Nat} (h : n < 2147483648) : (nI n = -1) = False := by
  apply propext
  constructor
  · intro e
    have h1 := congrArg Int32.toInt e
    rw [nI_toInt h] at h1
    have h2 : (-1 : Int32).toInt = -1 := by decide
    omega
  · exact False.elim
theorem nI_m1' {n : Nat} (h : n < 2147483648) : (-1 = nI n) = False := propext ⟨fun e => ((nI_m1 h).mp e.symm).elim, False.elim⟩
theorem m124 {X : am_X} {d : Nat} {σ : am_M} {v lo hi : Int32} : am_v X (d + 1) 124 [.int v, .int lo, .int hi] σ = some (some (.int (bI (lo ≤ v ∧ v ≤ hi))), σ) := by
  rw [s124]
  by_cases h1 : v < lo
  · have h3 : ¬ (lo ≤ v ∧ v ≤ hi) := fun q => Int32.not_le.mpr h1 q.1
    simp only [s124_0, s124_1, s124_2, s124_5, s124_6, s124_7, s124_10, s124_11, s124_14, s124_15, am_pu_s, am_pu_n, va_rf_s, va_rf_n, Option.bind_some, true_or, or_true, eq_self, if_true, if_false, ite_self, ite_true, ite_false, ↓reduceIte, reduceCtorEq, Nat.reduceEqDiff, Nat.reduceAdd, Nat.reduceLT, Nat.reduceLeDiff, Nat.reduceMul, Nat.reduceSub, not_true_eq_false, not_false_eq_true, and_self, and_true, true_and, and_false, false_and, h1, bI_f h3]
  · by_cases h2 : hi < v
    · have h3 : ¬ (lo ≤ v ∧ v ≤ hi) := fun q => Int32.not_le.mpr h2 q.2
      simp only [s124_0, s124_1, s124_2, s124_5, s124_6, s124_7, s124_10, s124_11, s124_14, s124_15, am_pu_s, am_pu_n, va_rf_s, va_rf_n, Option.bind_some, true_or, or_true, eq_self, if_true, if_false, ite_self, ite_true, ite_false, ↓reduceIte, reduceCtorEq, Nat.reduceEqDiff, Nat.reduceAdd, Nat.reduceLT, Nat.reduceLeDiff, Nat.reduceMul, Nat.reduceSub, not_true_eq_false, not_false_eq_true, and_self, and_true, true_and, and_false, false_and, h1, h2, bI_f h3]
    · have h3 : lo ≤ v ∧ v ≤ hi := ⟨Int32.not_lt.mp h1, Int32.not_lt.mp h2⟩
      simp only [s124_0, s124_1, s124_2, s124_5, s124_6, s124_7, s124_10, s124_11, s124_14, s124_15, am_pu_s, am_pu_n, va_rf_s, va_rf_n, Option.bind_some, true_or, or_true, eq_self, if_true, if_false, ite_self, ite_true, ite_false, ↓reduceIte, reduceCtorEq, Nat.reduceEqDiff, Nat.reduceAdd, Nat.reduceLT, Nat.reduceLeDiff, Nat.reduceMul, Nat.reduceSub, not_true_eq_false, not_false_eq_true, and_self, and_true, true_and, and_false, false_and, h1, h2, bI_t h3]
theorem m217 {X : am_X} {d : Nat} {σ : am_M} {a b : Int32} : am_v X (d + 1) 217 [.int a, .int b] σ = some (some (.int (if a < b then b else a)), σ) := by
  rw [s217]
  by_cases h : a < b <;> simp only [s217_0, s217_1, s217_2, s217_5, s217_6, s217_9, s217_10, am_pu_s, am_pu_n, va_rf_s, va_rf_n, Option.bind_some, true_or, or_true, eq_self, if_true, if_false, ite_self, ite_true, ite_false, ↓reduceIte, reduceCtorEq, Nat.reduceEqDiff, Nat.reduceAdd, Nat.reduceLT, Nat.reduceLeDiff, Nat.reduceMul, Nat.reduceSub, not_true_eq_false, not_false_eq_true, and_self, and_true, true_and, and_false, false_and, h]
theorem m218 {X : am_X} {d : Nat} {σ : am_M} {a b : Int32} : am_v X (d + 1) 218 [.int a, .int b] σ = some (some (.int (if b < a then b else a)), σ) := by
  rw [s218]
  by_cases h : b < a <;> simp only [s218_0, s218_1, s218_2, s218_5, s218_6, s218_9, s218_10, am_pu_s, am_pu_n, va_rf_s, va_rf_n, Option.bind_some, true_or, or_true, eq_self, if_true, if_false, ite_self, ite_true, ite_false, ↓reduceIte, reduceCtorEq, Nat.reduceEqDiff, Nat.reduceAdd, Nat.reduceLT, Nat.reduceLeDiff, Nat.reduceMul, Nat.reduceSub, not_true_eq_false, not_false_eq_true, and_self, and_true, true_and, and_false, false_and, h]
theorem m216 {X : am_X} {d : Nat} {σ : am_M} {a : Int32} : am_v X (d + 1) 216 [.int a] σ = some (some (.int (if nI 0 ≤ a then a else - a)), σ) := by
  rw [s216]
  by_cases h : nI 0 ≤ a <;> simp only [s216_0, s216_1, s216_4, s216_5, s216_6, s216_9, s216_10, am_pu_s, am_pu_n, va_rf_s, va_rf_n, Option.bind_some, true_or, or_true, eq_self, if_true, if_false, ite_self, ite_true, ite_false, ↓reduceIte, reduceCtorEq, Nat.reduceEqDiff, Nat.reduceAdd, Nat.reduceLT, Nat.reduceLeDiff, Nat.reduceMul, Nat.reduceSub, not_true_eq_false, not_false_eq_true, and_self, and_true, true_and, and_false, false_and, h]
theorem m24 {X : am_X} {d : Nat} {σ : am_M} (hF : am_F σ) {n k : Nat} (hn : am_I σ 1 1 = nI n) (hn40 : n ≤ 40) (hk : k < n) : am_v X (d + 1) 24 [.ref (1 : Nat), .int (nI k)] σ = some (some (.int (am_I σ 2 k)), σ) := by
  rw [s24]
  have h1 : ¬ nI k < nI 0 := nI_pos (by omega)
  have h2 : nI k < nI n := nI_lt hk (by omega)
  simp only [s24_0, s24_1, s24_4, s24_5, s24_6, s24_9, s24_12, s24_13, s24_16, s24_17, s24_20, s24_21, s24_22, am_pu_s, am_pu_n, va_rf_s, va_rf_n, Option.bind_some, true_or, or_true, eq_self, if_true, if_false, ite_self, ite_true, ite_false, ↓reduceIte, reduceCtorEq, Nat.reduceEqDiff, Nat.reduceAdd, Nat.reduceLT, Nat.reduceLeDiff, Nat.reduceMul, Nat.reduceSub, not_true_eq_false, not_false_eq_true, and_self, and_true, true_and, and_false, false_and, hF, kd1, rr1_0, hn, h1, h2, ix2 hF (show k < 40 by omega), nI_cl (show k < 2147483648 by omega)]
theorem m22 {X : am_X} {d : Nat} {σ : am_M} {c : Int32} (hF : am_F σ) {n : Nat} (hn : am_I σ 1 1 = nI n) (hn40 : n ≤ 40) : am_v X (d + 1) 22 [.ref (1 : Nat), .int c] σ = if n < 40 then some (some (.int (nI 1)), am_wI (am_wI σ 2 n c) 1 1 (nI (n + 1))) else some (some (.int (nI 0)), σ) := by
  rw [s22]
  by_cases h : n < 40
  · have h1 : nI n < nI 40 := nI_lt h (by decide)
    simp only [s22_0, s22_1, s22_4, s22_6, s22_9, s22_10, s22_11, s22_12, s22_15, s22_16, s22_19, s22_20, s22_21, s22_22, s22_23, s22_26, s22_27, s22_28, s22_31, s22_32, am_pu_s, am_pu_n, va_rf_s, va_rf_n, Option.bind_some, true_or, or_true, eq_self, if_true, if_false, ite_self, ite_true, ite_false, ↓reduceIte, reduceCtorEq, Nat.reduceEqDiff, Nat.reduceAdd, Nat.reduceLT, Nat.reduceLeDiff, Nat.reduceMul, Nat.reduceSub, not_true_eq_false, not_false_eq_true, and_self, and_true, true_and, and_false, false_and, am_I_wI, am_I_wJ, am_J_wI, am_J_wJ, am_R_wI, am_R_wJ, am_kd_wI, am_kd_wJ, am_ln_wI, am_ln_wJ, am_ix_wI, am_ix_wJ, am_F_wI, am_F_wJ, am_I_wC, am_J_wC, am_R_wC, am_kd_wC, am_ln_wC, am_ix_wC, am_F_wC, hF, kd1, rr1_0, hn, h, h1, ix2 hF h, nI_cl (show n < 2147483648 by omega), nI_add]
  · have h1 : ¬ nI n < nI 40 := nI_nlt (by omega) (by omega)
    simp only [s22_0, s22_1, s22_4, s22_6, s22_9, s22_10, s22_11, s22_12, s22_15, s22_16, s22_19, s22_20, s22_21, s22_22, s22_23, s22_26, s22_27, s22_28, s22_31, s22_32, am_pu_s, am_pu_n, va_rf_s, va_rf_n, Option.bind_some, true_or, or_true, eq_self, if_true, if_false, ite_self, ite_true, ite_false, ↓reduceIte, reduceCtorEq, Nat.reduceEqDiff, Nat.reduceAdd, Nat.reduceLT, Nat.reduceLeDiff, Nat.reduceMul, Nat.reduceSub, not_true_eq_false, not_false_eq_true, and_self, and_true, true_and, and_false, false_and, am_I_wI, am_I_wJ, am_J_wI, am_J_wJ, am_R_wI, am_R_wJ, am_kd_wI, am_kd_wJ, am_ln_wI, am_ln_wJ, am_ix_wI, am_ix_wJ, am_F_wI, am_F_wJ, am_I_wC, am_J_wC, am_R_wC, am_kd_wC, am_ln_wC, am_ix_wC, am_F_wC, hF, kd1, rr1_0, hn, h, h1]
theorem m23 {X : am_X} {d : Nat} {σ : am_M} (hF : am_F σ) : am_v X (d + 1) 23 [.ref (1 : Nat)] σ = some (none, am_wI σ 1 1 (nI 0)) := by
  rw [s23]
  simp only [s23_0, s23_1, s23_2, s23_5, am_pu_s, am_pu_n, va_rf_s, va_rf_n, Option.bind_some, true_or, or_true, eq_self, if_true, if_false, ite_self, ite_true, ite_false, ↓reduceIte, reduceCtorEq, Nat.reduceEqDiff, Nat.reduceAdd, Nat.reduceLT, Nat.reduceLeDiff, Nat.reduceMul, Nat.reduceSub, not_true_eq_false, not_false_eq_true, and_self, and_true, true_and, and_false, false_and, hF, kd1]
theorem m37 {X : am_X} {d : Nat} {σ : am_M} {c : Int32} : am_v X (d + 1) 37 [.int c] σ = some (some (.int (if c = nI 103 then nI 0 else if c = nI 99 then nI 1 else if c = nI 100 then nI 2 else if c = nI 115 then nI 3 else if c = nI 98 then nI 4 else -1)), σ) := by
  rw [s37]
  simp only [s37_0, s37_1, s37_52, s37_53, s37_54, s37_55, s37_56, s37_57, s37_58, s37_59, s37_60, s37_61, s37_62, s37_63, am_pu_s, am_pu_n, va_rf_s, va_rf_n, Option.bind_some, true_or, or_true, eq_self, if_true, if_false, ite_self, ite_true, ite_false, ↓reduceIte, reduceCtorEq, Nat.reduceEqDiff, Nat.reduceAdd, Nat.reduceLT, Nat.reduceLeDiff, Nat.reduceMul, Nat.reduceSub, not_true_eq_false, not_false_eq_true, and_self, and_true, true_and, and_false, false_and]
  by_cases h1 : c = nI 98
  · subst h1; rfl
  · by_cases h2 : c = nI 99
    · subst h2; rfl
    · by_cases h3 : c = nI 100
      · subst h3; rfl
      · by_cases h4 : c = nI 103
        · subst h4; rfl
        · by_cases h5 : c = nI 115
          · subst h5; rfl
          · simp only [h1, h2, h3, h4, h5, am_pu_s, am_pu_n, va_rf_s, va_rf_n, Option.bind_some, true_or, or_true, eq_self, if_true, if_false, ite_self, ite_true, ite_false, ↓reduceIte, reduceCtorEq, Nat.reduceEqDiff, Nat.reduceAdd, Nat.reduceLT, Nat.reduceLeDiff, Nat.reduceMul, Nat.reduceSub, not_true_eq_false, not_false_eq_true, and_self, and_true, true_and, and_false, false_and]
/-! loops: a fold from i on, n times -/
def am_fd {α : Type} (f : Nat → α → α) : Nat → Nat → α → α
  | _, 0, a => a
  | i, n + 1, a => am_fd f (i + 1) n (f i a)
theorem am_fd_s {α : Type} (f : Nat → α → α) : ∀ (n i : Nat) (a : α), am_fd f i (n + 1) a = f (i + n) (am_fd f i n a)
  | 0, i, a => rfl
  | n + 1, i, a => by
    show am_fd f (i + 1) (n + 1) (f i a) = _
    rw [am_fd_s f n (i + 1) (f i a)]
    show f (i + 1 + n) _ = f (i + (n + 1)) _
    rw [show i + 1 + n = i + (n + 1) by omega]
    rfl
theorem am_it {α β : Type} (F : Nat → α → β) (f : Nat → α → α) (n : Nat) (I : Nat → α → Prop) (h : ∀ i a, i < n → I i a → F i a = F (i + 1) (f i a)) (hI : ∀ i a, i < n → I i a → I (i + 1) (f i a)) : ∀ k i a, i + k = n → I i a → F i a = F n (am_fd f i k a) ∧ I n (am_fd f i k a)
  | 0, i, a, hk, hi => by
    have : i = n := by omega
    subst this
    exact ⟨rfl, hi⟩
  | k + 1, i, a, hk, hi => by
    have h1 := am_it F f n I h hI k (i + 1) (f i a) (by omega) (hI i a (by omega) hi)
    exact ⟨(h i a (by omega) hi).trans h1.1, h1.2⟩
theorem am_it0 {α β : Type} (F : Nat → α → β) (f : Nat → α → α) (n : Nat) (h : ∀ i a, i < n → F i a = F (i + 1) (f i a)) (a : α) : F 0 a = F n (am_fd f 0 n a) :=
  (am_it F f n (fun _ _ => True) (fun i a hi _ => h i a hi) (fun _ _ _ _ => trivial) n 0 a (by omega) trivial).1
/-- Model.isIn -/
theorem m125 {X : am_X} {d : Nat} {σ : am_M} {a k : Int32} : am_v X (d + 1) 125 [.int a, .int k] σ = some (some (.int (bI (a >>> (k &&& 31) &&& nI 1 = nI 1))), σ) := by
  rw [s125]
  by_cases h : a >>> (k &&& 31) &&& nI 1 = nI 1
  · simp only [s125_0, s125_1, s125_2, s125_3, s125_4, s125_5, s125_6, s125_9, s125_10, s125_13, s125_14, am_pu_s, am_pu_n, va_rf_s, va_rf_n, Option.bind_some, true_or, or_true, eq_self, if_true, if_false, ite_self, ite_true, ite_false, ↓reduceIte, reduceCtorEq, Nat.reduceEqDiff, Nat.reduceAdd, Nat.reduceLT, Nat.reduceLeDiff, Nat.reduceMul, Nat.reduceSub, not_true_eq_false, not_false_eq_true, and_self, and_true, true_and, and_false, false_and, h, bI_t]
  · simp only [s125_0, s125_1, s125_2, s125_3, s125_4, s125_5, s125_6, s125_9, s125_10, s125_13, s125_14, am_pu_s, am_pu_n, va_rf_s, va_rf_n, Option.bind_some, true_or, or_true, eq_self, if_true, if_false, ite_self, ite_true, ite_false, ↓reduceIte, reduceCtorEq, Nat.reduceEqDiff, Nat.reduceAdd, Nat.reduceLT, Nat.reduceLeDiff, Nat.reduceMul, Nat.reduceSub, not_true_eq_false, not_false_eq_true, and_self, and_true, true_and, and_false, false_and, h, bI_f]
/-- Model.notes -/
def wBits (a : Int32) : Int32 := am_fd (fun k s => s + (a >>> (nI k &&& 31) &&& nI 1)) 0 7 (nI 0)
theorem m126 {X : am_X} {d : Nat} {σ : am_M} {a : Int32} : am_v X (d + 1) 126 [.int a] σ = some (some (.int (wBits a)), σ) := by
  rw [s126]
  have h := am_it0 (fun i s => am_w X d 126 4 [some (.int a), some (.int s), some (.int (nI i))] [] σ) (fun k s => s + (a >>> (nI k &&& 31) &&& nI 1)) 7 (fun i s hi => by
    have h1 : ¬ nI 7 ≤ nI i := nI_ge hi (by decide)
    try dsimp only
    rw [s126_4]
    simp only [s126_0, s126_1, s126_2, s126_3, s126_5, s126_7, s126_10, s126_11, s126_12, s126_13, s126_14, s126_15, s126_16, s126_17, s126_18, s126_21, s126_24, s126_25, am_pu_s, am_pu_n, va_rf_s, va_rf_n, Option.bind_some, true_or, or_true, eq_self, if_true, if_false, ite_self, ite_true, ite_false, ↓reduceIte, reduceCtorEq, Nat.reduceEqDiff, Nat.reduceAdd, Nat.reduceLT, Nat.reduceLeDiff, Nat.reduceMul, Nat.reduceSub, not_true_eq_false, not_false_eq_true, and_self, and_true, true_and, and_false, false_and, nI_add, h1]) (nI 0)
  simp only [s126_0, s126_1, s126_2, s126_3]
  rw [h]
  simp only [s126_0, s126_1, s126_2, s126_3, s126_4, s126_5, s126_7, s126_10, s126_11, s126_12, s126_13, s126_14, s126_15, s126_16, s126_17, s126_18, s126_21, s126_24, s126_25, am_pu_s, am_pu_n, va_rf_s, va_rf_n, Option.bind_some, true_or, or_true, eq_self, if_true, if_false, ite_self, ite_true, ite_false, ↓reduceIte, reduceCtorEq, Nat.reduceEqDiff, Nat.reduceAdd, Nat.reduceLT, Nat.reduceLeDiff, Nat.reduceMul, Nat.reduceSub, not_true_eq_false, not_false_eq_true, and_self, and_true, true_and, and_false, false_and, nI_LE]
  rfl
/-- Integer.bitCount -/
def wBc (i : Int32) : Int32 :=
  let a := i - ((i.toUInt32 >>> ((nI 1).toUInt32 &&& Int32.toUInt32 31)).toInt32 &&& nI 1431655765)
  let b := (a &&& nI 858993459) + ((a.toUInt32 >>> ((nI 2).toUInt32 &&& Int32.toUInt32 31)).toInt32 &&& nI 858993459)
  let c := b + (b.toUInt32 >>> ((nI 4).toUInt32 &&& Int32.toUInt32 31)).toInt32 &&& nI 252645135
  let e := c + (c.toUInt32 >>> ((nI 8).toUInt32 &&& Int32.toUInt32 31)).toInt32
  let f := e + (e.toUInt32 >>> ((nI 16).toUInt32 &&& Int32.toUInt32 31)).toInt32
  f &&& nI 63
theorem m215 {X : am_X} {d : Nat} {σ : am_M} {a : Int32} : am_v X (d + 1) 215 [.int a] σ = some (some (.int (wBc a)), σ) := by
  rw [s215]
  simp only [s215_0, s215_1, s215_2, s215_3, s215_4, s215_7, s215_8, s215_9, s215_10, s215_11, s215_14, s215_15, s215_16, s215_17, s215_18, s215_21, s215_22, s215_23, s215_24, s215_25, s215_26, s215_27, s215_28, s215_29, s215_32, s215_33, s215_34, s215_35, s215_36, s215_38, s215_39, s215_40, s215_41, s215_42, s215_43, s215_45, s215_46, s215_47, s215_48, s215_49, s215_51, s215_52]
  rfl
/-- how many bits of the lowest seven -/
def sBits (n : Nat) : Nat := n % 2 + n / 2 % 2 + n / 4 % 2 + n / 8 % 2 + n / 16 % 2 + n / 32 % 2 + n / 64 % 2
theorem wBits_n : ∀ n, n < 128 → wBits (nI n) = nI (sBits n) := by decide +kernel
theorem wBc_n : ∀ n, n < 128 → wBc (nI n) = nI (sBits n) := by decide +kernel


theorem nI_pm (n : Nat) : nI (n + 1) + (-1) = nI n := pk_m1 n
theorem nI_0m : nI 0 + (-1) = (-1 : Int32) := by decide +kernel
theorem nI_ltm : ((-1 : Int32) < nI 0) = True := by decide +kernel
theorem nI_nlm : (nI 0 ≤ (-1 : Int32)) = False := by decide +kernel
/-- X11.highest, Model.highest -/
def wHi (n : Nat) : Int32 := if n = 0 then -1 else if 64 ≤ n then nI 6 else if 32 ≤ n then nI 5 else if 16 ≤ n then nI 4 else if 8 ≤ n then nI 3 else if 4 ≤ n then nI 2 else if 2 ≤ n then nI 1 else nI 0
def wHiC (a : Int32) : Int32 := if a >>> (nI 6 &&& 31) &&& nI 1 = nI 0 then if a >>> (nI 5 &&& 31) &&& nI 1 = nI 0 then if a >>> (nI 4 &&& 31) &&& nI 1 = nI 0 then if a >>> (nI 3 &&& 31) &&& nI 1 = nI 0 then if a >>> (nI 2 &&& 31) &&& nI 1 = nI 0 then if a >>> (nI 1 &&& 31) &&& nI 1 = nI 0 then if a >>> (nI 0 &&& 31) &&& nI 1 = nI 0 then -1 else nI 0 else nI 1 else nI 2 else nI 3 else nI 4 else nI 5 else nI 6
theorem wHiC_n : ∀ n, n < 128 → wHiC (nI n) = wHi n := by decide +kernel
theorem m122 {X : am_X} {d : Nat} {σ : am_M} {a : Int32} : am_v X (d + 1) 122 [.int a] σ = some (some (.int (wHiC a)), σ) := by
  rw [s122]
  simp only [s122_0, s122_2, s122_3, s122_4, s122_7, s122_8, s122_9, s122_10, s122_11, s122_12, s122_15, s122_16, s122_17, s122_20, s122_23, s122_24, am_pu_s, am_pu_n, va_rf_s, va_rf_n, Option.bind_some, true_or, or_true, eq_self, if_true, if_false, ite_self, ite_true, ite_false, ↓reduceIte, reduceCtorEq, Nat.reduceEqDiff, Nat.reduceAdd, Nat.reduceLT, Nat.reduceLeDiff, Nat.reduceMul, Nat.reduceSub, not_true_eq_false, not_false_eq_true, and_self, and_true, true_and, and_false, false_and, nI_LT, nI_LE, nI_ltm, show nI 6 + (-1) = nI 5 from nI_pm 5, show nI 5 + (-1) = nI 4 from nI_pm 4, show nI 4 + (-1) = nI 3 from nI_pm 3, show nI 3 + (-1) = nI 2 from nI_pm 2, show nI 2 + (-1) = nI 1 from nI_pm 1, show nI 1 + (-1) = nI 0 from nI_pm 0, nI_0m, nI_nlm]
  unfold wHiC
  repeat' split
  all_goals rfl
def wHiM (a : Int32) : Int32 := am_fd (fun k s => if a >>> (nI k &&& 31) &&& nI 1 = nI 1 then nI k else s) 0 7 (-1)
theorem wHiM_n : ∀ n, n < 128 → wHiM (nI n) = wHi n := by decide +kernel
theorem m129 {X : am_X} {d : Nat} {σ : am_M} {a : Int32} : am_v X (d + 2) 129 [.int a] σ = some (some (.int (wHiM a)), σ) := by
  rw [s129]
  have h := am_it0 (fun i s => am_w X (d + 1) 129 4 [some (.int a), some (.int s), some (.int (nI i))] [] σ) (fun k s => if a >>> (nI k &&& 31) &&& nI 1 = nI 1 then nI k else s) 7 (fun i s hi => by
    have h1 : ¬ nI 7 ≤ nI i := nI_ge hi (by decide)
    try dsimp only
    rw [s129_4]
    by_cases hc : a >>> (nI i &&& 31) &&& nI 1 = nI 1 <;> simp only [s129_0, s129_1, s129_2, s129_3, s129_5, s129_7, s129_10, s129_11, s129_12, s129_15, s129_18, s129_19, s129_22, s129_23, s129_24, s129_27, s129_30, s129_31, am_pu_s, am_pu_n, va_rf_s, va_rf_n, Option.bind_some, true_or, or_true, eq_self, if_true, if_false, ite_self, ite_true, ite_false, ↓reduceIte, reduceCtorEq, Nat.reduceEqDiff, Nat.reduceAdd, Nat.reduceLT, Nat.reduceLeDiff, Nat.reduceMul, Nat.reduceSub, not_true_eq_false, not_false_eq_true, and_self, and_true, true_and, and_false, false_and, nI_add, h1, m125, bI_0, hc]) (-1)
  simp only [s129_0, s129_1, s129_2, s129_3]
  rw [h]
  simp only [s129_0, s129_1, s129_2, s129_3, s129_4, s129_5, s129_7, s129_10, s129_11, s129_12, s129_15, s129_18, s129_19, s129_22, s129_23, s129_24, s129_27, s129_30, s129_31, am_pu_s, am_pu_n, va_rf_s, va_rf_n, Option.bind_some, true_or, or_true, eq_self, if_true, if_false, ite_self, ite_true, ite_false, ↓reduceIte, reduceCtorEq, Nat.reduceEqDiff, Nat.reduceAdd, Nat.reduceLT, Nat.reduceLeDiff, Nat.reduceMul, Nat.reduceSub, not_true_eq_false, not_false_eq_true, and_self, and_true, true_and, and_false, false_and, nI_LE]
  rfl
/-- X11.raised, Model.higherBy -/
def sRa (n x : Nat) : Nat := n * 2 ^ (x % 7) % 128 + n / 2 ^ (7 - x % 7)
theorem sRa_lt {n x : Nat} (h : n < 128) : sRa n x < 128 := by
  have h1 : ∀ n, n < 128 → ∀ t, t < 7 → n * 2 ^ t % 128 + n / 2 ^ (7 - t) < 128 := by decide +kernel
  exact h1 n h (x % 7) (Nat.mod_lt _ (by decide))
theorem m121 {X : am_X} {d : Nat} {σ : am_M} {n x : Nat} (hn : n < 128) (hx : x < 64) : am_v X (d + 2) 121 [.int (nI n), .int (nI x)] σ = some (some (.int (nI (sRa n x))), σ) := by
  have h1 : ∀ n, n < 128 → ∀ t, t < 7 → (nI n <<< (nI t &&& 31) ||| nI n >>> ((nI 7 - nI t) &&& 31)) &&& nI 127 = nI (n * 2 ^ t % 128 + n / 2 ^ (7 - t)) := by decide +kernel
  have h2 := h1 n hn (x % 7) (Nat.mod_lt _ (by decide))
  have h0 : ¬ nI 7 = nI 0 := by decide +kernel
  have h3 : nI x - nI x / nI 7 * nI 7 = nI (x % 7) := pk_rem (by omega) (by decide) (by decide)
  rw [s121]
  simp only [s121_0, s121_1, s121_3, s121_4, s121_5, s121_6, s121_7, s121_8, s121_9, s121_11, s121_12, s121_13, s121_14, s121_15, s121_17, s121_18, am_pu_s, am_pu_n, va_rf_s, va_rf_n, Option.bind_some, true_or, or_true, eq_self, if_true, if_false, ite_self, ite_true, ite_false, ↓reduceIte, reduceCtorEq, Nat.reduceEqDiff, Nat.reduceAdd, Nat.reduceLT, Nat.reduceLeDiff, Nat.reduceMul, Nat.reduceSub, not_true_eq_false, not_false_eq_true, and_self, and_true, true_and, and_false, false_and, h0, h3, h2]
  rfl
theorem m128 {X : am_X} {d : Nat} {σ : am_M} {n x : Nat} (hn : n < 128) (hx : x < 64) : am_v X (d + 1) 128 [.int (nI n), .int (nI x)] σ = some (some (.int (nI (sRa n x))), σ) := by
  have h1 : ∀ n, n < 128 → ∀ t, t < 7 → (nI n <<< (nI t &&& 31) ||| nI n >>> ((nI 7 - nI t) &&& 31)) &&& nI 127 = nI (n * 2 ^ t % 128 + n / 2 ^ (7 - t)) := by decide +kernel
  have h2 := h1 n hn (x % 7) (Nat.mod_lt _ (by decide))
  have h0 : ¬ nI 7 = nI 0 := by decide +kernel
  have h3 : nI x - nI x / nI 7 * nI 7 = nI (x % 7) := pk_rem (by omega) (by decide) (by decide)
  rw [s128]
  simp only [s128_0, s128_1, s128_3, s128_4, s128_5, s128_6, s128_7, s128_8, s128_9, s128_11, s128_12, s128_13, s128_14, s128_15, s128_17, s128_18, am_pu_s, am_pu_n, va_rf_s, va_rf_n, Option.bind_some, true_or, or_true, eq_self, if_true, if_false, ite_self, ite_true, ite_false, ↓reduceIte, reduceCtorEq, Nat.reduceEqDiff, Nat.reduceAdd, Nat.reduceLT, Nat.reduceLeDiff, Nat.reduceMul, Nat.reduceSub, not_true_eq_false, not_false_eq_true, and_self, and_true, true_and, and_false, false_and, h0, h3, h2]
  rfl
theorem m127 {X : am_X} {d : Nat} {σ : am_M} {a b : Int32} : am_v X (d + 1) 127 [.int a, .int b] σ = some (some (.int (if b < a then a - b else b - a)), σ) := by
  rw [s127]
  by_cases h : b < a
  · have h1 : ¬ a ≤ b := Int32.not_le.mpr h
    simp only [s127_0, s127_1, s127_2, s127_5, s127_6, s127_7, s127_8, s127_11, s127_12, s127_13, s127_14, am_pu_s, am_pu_n, va_rf_s, va_rf_n, Option.bind_some, true_or, or_true, eq_self, if_true, if_false, ite_self, ite_true, ite_false, ↓reduceIte, reduceCtorEq, Nat.reduceEqDiff, Nat.reduceAdd, Nat.reduceLT, Nat.reduceLeDiff, Nat.reduceMul, Nat.reduceSub, not_true_eq_false, not_false_eq_true, and_self, and_true, true_and, and_false, false_and, h, h1]
  · have h1 : a ≤ b := Int32.not_lt.mp h
    simp only [s127_0, s127_1, s127_2, s127_5, s127_6, s127_7, s127_8, s127_11, s127_12, s127_13, s127_14, am_pu_s, am_pu_n, va_rf_s, va_rf_n, Option.bind_some, true_or, or_true, eq_self, if_true, if_false, ite_self, ite_true, ite_false, ↓reduceIte, reduceCtorEq, Nat.reduceEqDiff, Nat.reduceAdd, Nat.reduceLT, Nat.reduceLeDiff, Nat.reduceMul, Nat.reduceSub, not_true_eq_false, not_false_eq_true, and_self, and_true, true_and, and_false, false_and, h, h1]
theorem m120 {X : am_X} {d : Nat} {σ : am_M} {c : Int32} : am_v X (d + 1) 120 [.int c] σ = some (some (.int (bI (nI 97 ≤ c ∧ c ≤ nI 103))), σ) := by
  rw [s120]
  by_cases h1 : c < nI 97
  · have h3 : ¬ (nI 97 ≤ c ∧ c ≤ nI 103) := fun q => Int32.not_le.mpr h1 q.1
    simp only [s120_0, s120_1, s120_3, s120_6, s120_7, s120_9, s120_12, s120_13, s120_16, s120_17, am_pu_s, am_pu_n, va_rf_s, va_rf_n, Option.bind_some, true_or, or_true, eq_self, if_true, if_false, ite_self, ite_true, ite_false, ↓reduceIte, reduceCtorEq, Nat.reduceEqDiff, Nat.reduceAdd, Nat.reduceLT, Nat.reduceLeDiff, Nat.reduceMul, Nat.reduceSub, not_true_eq_false, not_false_eq_true, and_self, and_true, true_and, and_false, false_and, h1, bI_f h3]
  · by_cases h2 : nI 103 < c
    · have h3 : ¬ (nI 97 ≤ c ∧ c ≤ nI 103) := fun q => Int32.not_le.mpr h2 q.2
      simp only [s120_0, s120_1, s120_3, s120_6, s120_7, s120_9, s120_12, s120_13, s120_16, s120_17, am_pu_s, am_pu_n, va_rf_s, va_rf_n, Option.bind_some, true_or, or_true, eq_self, if_true, if_false, ite_self, ite_true, ite_false, ↓reduceIte, reduceCtorEq, Nat.reduceEqDiff, Nat.reduceAdd, Nat.reduceLT, Nat.reduceLeDiff, Nat.reduceMul, Nat.reduceSub, not_true_eq_false, not_false_eq_true, and_self, and_true, true_and, and_false, false_and, h1, h2, bI_f h3]
    · have h3 : nI 97 ≤ c ∧ c ≤ nI 103 := ⟨Int32.not_lt.mp h1, Int32.not_lt.mp h2⟩
      simp only [s120_0, s120_1, s120_3, s120_6, s120_7, s120_9, s120_12, s120_13, s120_16, s120_17, am_pu_s, am_pu_n, va_rf_s, va_rf_n, Option.bind_some, true_or, or_true, eq_self, if_true, if_false, ite_self, ite_true, ite_false, ↓reduceIte, reduceCtorEq, Nat.reduceEqDiff, Nat.reduceAdd, Nat.reduceLT, Nat.reduceLeDiff, Nat.reduceMul, Nat.reduceSub, not_true_eq_false, not_false_eq_true, and_self, and_true, true_and, and_false, false_and, h1, h2, bI_t h3]
def wKd (c : Int32) : Int32 := if c = nI 103 then nI 0 else if c = nI 99 then nI 1 else if c = nI 100 then nI 2 else if c = nI 115 then nI 3 else if c = nI 98 then nI 4 else -1
theorem m132 {X : am_X} {d : Nat} {σ : am_M} {c : Int32} : am_v X (d + 1) 132 [.int c] σ = some (some (.int (wKd c)), σ) := by
  rw [s132]
  simp only [s132_0, s132_1, s132_52, s132_53, s132_54, s132_55, s132_56, s132_57, s132_58, s132_59, s132_60, s132_61, s132_62, s132_63, am_pu_s, am_pu_n, va_rf_s, va_rf_n, Option.bind_some, true_or, or_true, eq_self, if_true, if_false, ite_self, ite_true, ite_false, ↓reduceIte, reduceCtorEq, Nat.reduceEqDiff, Nat.reduceAdd, Nat.reduceLT, Nat.reduceLeDiff, Nat.reduceMul, Nat.reduceSub, not_true_eq_false, not_false_eq_true, and_self, and_true, true_and, and_false, false_and]
  unfold wKd
  by_cases h1 : c = nI 98
  · subst h1; rfl
  · by_cases h2 : c = nI 99
    · subst h2; rfl
    · by_cases h3 : c = nI 100
      · subst h3; rfl
      · by_cases h4 : c = nI 103
        · subst h4; rfl
        · by_cases h5 : c = nI 115
          · subst h5; rfl
          · simp only [h1, h2, h3, h4, h5, am_pu_s, am_pu_n, va_rf_s, va_rf_n, Option.bind_some, true_or, or_true, eq_self, if_true, if_false, ite_self, ite_true, ite_false, ↓reduceIte, reduceCtorEq, Nat.reduceEqDiff, Nat.reduceAdd, Nat.reduceLT, Nat.reduceLeDiff, Nat.reduceMul, Nat.reduceSub, not_true_eq_false, not_false_eq_true, and_self, and_true, true_and, and_false, false_and]
