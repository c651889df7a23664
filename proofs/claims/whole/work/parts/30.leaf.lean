/-! small numbers, and the methods that call nothing -/
def bI (c : Prop) [Decidable c] : Int32 := if c then nI 1 else nI 0
theorem bI_0 {c : Prop} [Decidable c] : (bI c = nI 0) = ¬ c := by
  unfold bI
  by_cases h : c <;> simp [h] <;> decide
theorem bI_1 {c : Prop} [Decidable c] : (bI c = nI 1) = c := by
  unfold bI
  by_cases h : c <;> simp [h] <;> decide
theorem bI_01 {c : Prop} [Decidable c] : bI c = nI 0 ∨ bI c = nI 1 := by
  unfold bI
  by_cases h : c <;> simp [h]
theorem bI_t {c : Prop} [Decidable c] (h : c) : bI c = nI 1 := if_pos h
theorem bI_f {c : Prop} [Decidable c] (h : ¬ c) : bI c = nI 0 := if_neg h
theorem bI_c {c e : Prop} [Decidable c] [Decidable e] (h : c ↔ e) : bI c = bI e := by
  unfold bI
  by_cases hc : c
  · rw [if_pos hc, if_pos (h.mp hc)]
  · rw [if_neg hc, if_neg (fun q => hc (h.mpr q))]
theorem nI_cl {n : Nat} (h : n < 2147483648) : (nI n).toNatClampNeg = n := nI_clamp h
theorem nI_LT {a b : Nat} (ha : a < 2147483648) (hb : b < 2147483648) : (nI a < nI b) = (a < b) := propext (nI_ltI ha hb)
theorem nI_LE {a b : Nat} (ha : a < 2147483648) (hb : b < 2147483648) : (nI a ≤ nI b) = (a ≤ b) := propext (nI_leI ha hb)
theorem nI_EQ {a b : Nat} (ha : a < 2147483648) (hb : b < 2147483648) : (nI a = nI b) = (a = b) := propext (nI_eq ha hb)
theorem nI_m1 {n : Nat} (h : n < 2147483648) : (nI n = -1) = False := by
  apply propext
  constructor
  · intro e
    have h1 := congrArg Int32.toInt e
    rw [nI_toInt h] at h1
    have h2 : (-1 : Int32).toInt = -1 := by decide
    omega
  · exact False.elim
theorem nI_m1' {n : Nat} (h : n < 2147483648) : (-1 = nI n) = False := by rw [eq_comm]; exact nI_m1 h
theorem m124 {X : am_X} {d : Nat} {σ : am_M} {v lo hi : Int32} : am_v X (d + 1) 124 [.int v, .int lo, .int hi] σ = some (some (.int (bI (lo ≤ v ∧ v ≤ hi))), σ) := by
  rw [s124]
  by_cases h1 : v < lo
  · have h3 : ¬ (lo ≤ v ∧ v ≤ hi) := fun q => Int32.not_le.mpr h1 q.1
    simp only [s124_0, s124_1, s124_2, s124_5, s124_6, s124_7, s124_10, s124_11, s124_14, s124_15, am_pu_s, am_pu_n, va_rf_s, va_rf_n, Option.bind_some, true_or, or_true, eq_self, if_true, if_false, ite_self, ite_true, ite_false, reduceIte, reduceCtorEq, not_true_eq_false, not_false_eq_true, and_self, and_true, true_and, and_false, false_and, h1, bI_f h3]
  · by_cases h2 : hi < v
    · have h3 : ¬ (lo ≤ v ∧ v ≤ hi) := fun q => Int32.not_le.mpr h2 q.2
      simp only [s124_0, s124_1, s124_2, s124_5, s124_6, s124_7, s124_10, s124_11, s124_14, s124_15, am_pu_s, am_pu_n, va_rf_s, va_rf_n, Option.bind_some, true_or, or_true, eq_self, if_true, if_false, ite_self, ite_true, ite_false, reduceIte, reduceCtorEq, not_true_eq_false, not_false_eq_true, and_self, and_true, true_and, and_false, false_and, h1, h2, bI_f h3]
    · have h3 : lo ≤ v ∧ v ≤ hi := ⟨Int32.not_lt.mp h1, Int32.not_lt.mp h2⟩
      simp only [s124_0, s124_1, s124_2, s124_5, s124_6, s124_7, s124_10, s124_11, s124_14, s124_15, am_pu_s, am_pu_n, va_rf_s, va_rf_n, Option.bind_some, true_or, or_true, eq_self, if_true, if_false, ite_self, ite_true, ite_false, reduceIte, reduceCtorEq, not_true_eq_false, not_false_eq_true, and_self, and_true, true_and, and_false, false_and, h1, h2, bI_t h3]
theorem m218 {X : am_X} {d : Nat} {σ : am_M} {a b : Int32} : am_v X (d + 1) 218 [.int a, .int b] σ = some (some (.int (if a < b then b else a)), σ) := by
  rw [s218]
  by_cases h : a < b <;> simp only [s218_0, s218_1, s218_2, s218_5, s218_6, s218_9, s218_10, am_pu_s, am_pu_n, va_rf_s, va_rf_n, Option.bind_some, true_or, or_true, eq_self, if_true, if_false, ite_self, ite_true, ite_false, reduceIte, reduceCtorEq, not_true_eq_false, not_false_eq_true, and_self, and_true, true_and, and_false, false_and, h]
theorem m219 {X : am_X} {d : Nat} {σ : am_M} {a b : Int32} : am_v X (d + 1) 219 [.int a, .int b] σ = some (some (.int (if b < a then b else a)), σ) := by
  rw [s219]
  by_cases h : b < a <;> simp only [s219_0, s219_1, s219_2, s219_5, s219_6, s219_9, s219_10, am_pu_s, am_pu_n, va_rf_s, va_rf_n, Option.bind_some, true_or, or_true, eq_self, if_true, if_false, ite_self, ite_true, ite_false, reduceIte, reduceCtorEq, not_true_eq_false, not_false_eq_true, and_self, and_true, true_and, and_false, false_and, h]
theorem m217 {X : am_X} {d : Nat} {σ : am_M} {a : Int32} : am_v X (d + 1) 217 [.int a] σ = some (some (.int (if nI 0 ≤ a then a else - a)), σ) := by
  rw [s217]
  by_cases h : nI 0 ≤ a <;> simp only [s217_0, s217_1, s217_4, s217_5, s217_6, s217_9, s217_10, am_pu_s, am_pu_n, va_rf_s, va_rf_n, Option.bind_some, true_or, or_true, eq_self, if_true, if_false, ite_self, ite_true, ite_false, reduceIte, reduceCtorEq, not_true_eq_false, not_false_eq_true, and_self, and_true, true_and, and_false, false_and, h]
theorem m24 {X : am_X} {d : Nat} {σ : am_M} (hF : am_F σ) {n k : Nat} (hn : am_I σ 1 1 = nI n) (hn40 : n ≤ 40) (hk : k < n) : am_v X (d + 1) 24 [.ref 1, .int (nI k)] σ = some (some (.int (am_I σ 2 k)), σ) := by
  rw [s24]
  have h1 : ¬ nI k < nI 0 := nI_pos (by omega)
  have h2 : ¬ nI n ≤ nI k := nI_ge hk (by omega)
  simp only [s24_0, s24_1, s24_4, s24_5, s24_6, s24_9, s24_12, s24_13, s24_16, s24_17, s24_20, s24_21, s24_22, am_pu_s, am_pu_n, va_rf_s, va_rf_n, Option.bind_some, true_or, or_true, eq_self, if_true, if_false, ite_self, ite_true, ite_false, reduceIte, reduceCtorEq, not_true_eq_false, not_false_eq_true, and_self, and_true, true_and, and_false, false_and, hF, kd1, rr1_0, hn, h1, h2, ix2 hF (show k < 40 by omega), nI_cl (show k < 2147483648 by omega)]
theorem m22 {X : am_X} {d : Nat} {σ : am_M} {c : Int32} (hF : am_F σ) {n : Nat} (hn : am_I σ 1 1 = nI n) (hn40 : n ≤ 40) : am_v X (d + 1) 22 [.ref 1, .int c] σ = if n < 40 then some (some (.int (nI 1)), am_wI (am_wI σ 2 n c) 1 1 (nI (n + 1))) else some (some (.int (nI 0)), σ) := by
  rw [s22]
  by_cases h : n < 40
  · have h1 : nI n < nI 40 := nI_lt h (by decide)
    simp only [s22_0, s22_1, s22_4, s22_6, s22_9, s22_10, s22_11, s22_12, s22_15, s22_16, s22_19, s22_20, s22_21, s22_22, s22_23, s22_26, s22_27, s22_28, s22_31, s22_32, am_pu_s, am_pu_n, va_rf_s, va_rf_n, Option.bind_some, true_or, or_true, eq_self, if_true, if_false, ite_self, ite_true, ite_false, reduceIte, reduceCtorEq, not_true_eq_false, not_false_eq_true, and_self, and_true, true_and, and_false, false_and, am_I_wI, am_I_wJ, am_J_wI, am_J_wJ, am_R_wI, am_R_wJ, am_kd_wI, am_kd_wJ, am_ln_wI, am_ln_wJ, am_ix_wI, am_ix_wJ, am_F_wI, am_F_wJ, am_I_wC, am_J_wC, am_R_wC, am_kd_wC, am_ln_wC, am_ix_wC, am_F_wC, hF, kd1, rr1_0, hn, h, h1, ix2 hF h, nI_cl (show n < 2147483648 by omega), nI_add]
    simp
  · have h1 : ¬ nI n < nI 40 := nI_nlt (by omega) (by omega)
    simp only [s22_0, s22_1, s22_4, s22_6, s22_9, s22_10, s22_11, s22_12, s22_15, s22_16, s22_19, s22_20, s22_21, s22_22, s22_23, s22_26, s22_27, s22_28, s22_31, s22_32, am_pu_s, am_pu_n, va_rf_s, va_rf_n, Option.bind_some, true_or, or_true, eq_self, if_true, if_false, ite_self, ite_true, ite_false, reduceIte, reduceCtorEq, not_true_eq_false, not_false_eq_true, and_self, and_true, true_and, and_false, false_and, am_I_wI, am_I_wJ, am_J_wI, am_J_wJ, am_R_wI, am_R_wJ, am_kd_wI, am_kd_wJ, am_ln_wI, am_ln_wJ, am_ix_wI, am_ix_wJ, am_F_wI, am_F_wJ, am_I_wC, am_J_wC, am_R_wC, am_kd_wC, am_ln_wC, am_ix_wC, am_F_wC, hF, kd1, rr1_0, hn, h, h1]
