/-! a seed drawn from -/
theorem lq_toInt {n : Nat} (h : n < 2 ^ 63) : (lN n).toInt = n := Int64.toInt_ofNat_of_lt h
theorem lq_div {a b : Nat} (ha : a < 2 ^ 63) (hb : b < 2 ^ 63) : lN a / lN b = lN (a / b) := by
  apply Int64.toInt.inj
  have h1 : a / b < 2 ^ 63 := Nat.lt_of_le_of_lt (Nat.div_le_self a b) ha
  rw [Int64.toInt_div, lq_toInt ha, lq_toInt hb, lq_toInt h1]
  have h2 : Int.tdiv (a : Int) (b : Int) = ((a / b : Nat) : Int) := rfl
  rw [h2]
  generalize a / b = q at h1
  exact Int.bmod_eq_of_le (by omega) (by omega)
theorem lq_rem {a b : Nat} (ha : a < 2 ^ 63) (hb : b < 2 ^ 63) : lN a - lN a / lN b * lN b = lN (a % b) := by
  have h1 := Nat.div_mul_le_self a b
  have h2 := Nat.div_add_mod a b
  rw [Nat.mul_comm] at h2
  rw [lq_div ha hb, lN_mul, lN_sub h1]
  rw [show a - a / b * b = a % b by omega]
theorem lq_i2l {n : Nat} (h : n < 2 ^ 31) : (nI n).toInt64 = lN n := by
  apply Int64.toInt.inj
  rw [Int32.toInt_toInt64, nI_toInt h, lq_toInt (by omega)]
theorem lq_and {n : Nat} (h : n < 2 ^ 63) : lN n &&& 2147483647 = lN (n % 2 ^ 31) := by
  apply Int64.toBitVec_inj.mp
  rw [Int64.toBitVec_and]
  apply BitVec.eq_of_toNat_eq
  rw [BitVec.toNat_and]
  have e1 : (lN n).toBitVec.toNat = n := by
    show (BitVec.ofNat 64 n).toNat = n
    rw [BitVec.toNat_ofNat]
    omega
  have e2 : (lN (n % 2 ^ 31)).toBitVec.toNat = n % 2 ^ 31 := by
    show (BitVec.ofNat 64 (n % 2 ^ 31)).toNat = n % 2 ^ 31
    rw [BitVec.toNat_ofNat]
    omega
  have e3 : (2147483647 : Int64).toBitVec.toNat = 2 ^ 31 - 1 := by decide +kernel
  rw [e1, e2, e3, Nat.and_two_pow_sub_one_eq_mod]
/-- the next seed; what is drawn of n -/
def sNx (s : Nat) : Nat := (1103515245 * s + 12345) % 2 ^ 31
def sDr (s n : Nat) : Nat := sNx s / 65536 % n
theorem sNx_lt (s : Nat) : sNx s < 2 ^ 31 := Nat.mod_lt _ (by decide)
section DR
variable {X : am_X} {d s n : Nat} {σ : am_M}
theorem lq_a : (1103515245 : Int64) = lN 1103515245 := by decide +kernel
theorem lq_b : (12345 : Int64) = lN 12345 := by decide +kernel
theorem lq_c : (2147483648 : Int64) = lN (2 ^ 31) := by decide +kernel
theorem lq_d : (65536 : Int64) = lN 65536 := by decide +kernel
theorem lq_ne {n : Nat} (h : n < 2 ^ 31) (h0 : 0 < n) : ¬ lN n = 0 := by
  intro e
  have := congrArg Int64.toInt e
  rw [lq_toInt (by omega)] at this
  have h1 : (0 : Int64).toInt = 0 := by decide
  omega
theorem m3 (hF : am_F σ) (hs : s < 2 ^ 31) (hn : n < 2 ^ 31) (h0 : 0 < n) (h : am_J σ 65 0 = lN s) : am_v X (d + 1) 3 [.ref (65 : Nat), .int (nI n)] σ = some (some (.int (nI (sDr s n))), am_wJ σ 65 0 (lN (sNx s))) := by
  have e1 : ¬ (2147483648 : Int64) = 0 := by decide +kernel
  have e2 : ¬ (65536 : Int64) = 0 := by decide +kernel
  have e3 : ¬ (nI n).toInt64 = 0 := by rw [lq_i2l hn]; exact lq_ne hn h0
  have e4 : nI 0 < nI n := nI_lt h0 hn
  have q1 := sNx_lt s
  have e5 : (1103515245 : Int64) * lN s + 12345 - ((1103515245 : Int64) * lN s + 12345) / 2147483648 * 2147483648 = lN (sNx s) := by
    rw [lq_a, lq_b, lq_c, lN_mul, lN_add, lq_rem (by omega) (by decide)]
    rfl
  have e6 : lN (sNx s) / 65536 - lN (sNx s) / 65536 / (nI n).toInt64 * (nI n).toInt64 = lN (sDr s n) := by
    rw [lq_i2l hn, lq_d, lq_div (by omega) (by decide), lq_rem (by omega) (by omega)]
    rfl
  have e7 : am_J (am_wJ σ 65 0 (lN (sNx s))) 65 0 = lN (sNx s) := by rw [am_J_wJ, if_pos ⟨rfl, rfl⟩]
  rw [s3]
  simp only [s3_0, s3_1, s3_4, s3_5, s3_8, s3_9, s3_12, s3_13, s3_16, s3_17, s3_20, s3_21, s3_24, s3_25, s3_28, s3_29, s3_32, s3_35, s3_36, s3_37, s3_38, s3_39, s3_40, am_pu_s, am_pu_n, va_rf_s, va_rf_n, Option.bind_some, true_or, or_true, eq_self, if_true, if_false, ite_self, ite_true, ite_false, ↓reduceIte, reduceCtorEq, Nat.reduceEqDiff, Nat.reduceAdd, Nat.reduceLT, Nat.reduceLeDiff, Nat.reduceMul, Nat.reduceSub, not_true_eq_false, not_false_eq_true, and_self, and_true, true_and, and_false, false_and, am_I_wI, am_I_wJ, am_J_wI, am_J_wJ, am_R_wI, am_R_wJ, am_kd_wI, am_kd_wJ, am_ln_wI, am_ln_wJ, am_ix_wI, am_ix_wJ, am_F_wI, am_F_wJ, am_I_wC, am_J_wC, am_R_wC, am_kd_wC, am_ln_wC, am_ix_wC, am_F_wC, hF, kd65, h, e1, e2, e3, e4, e5, e6, lN_i]
theorem m199 (hF : am_F σ) (hs : s < 2 ^ 31) (hn : n < 2 ^ 31) (h0 : 0 < n) (h : am_J σ 66 41 = lN s) : am_v X (d + 1) 199 [.ref (66 : Nat), .int (nI n)] σ = some (some (.int (nI (sDr s n))), am_wJ σ 66 41 (lN (sNx s))) := by
  have e2 : ¬ (65536 : Int64) = 0 := by decide +kernel
  have e3 : ¬ (nI n).toInt64 = 0 := by rw [lq_i2l hn]; exact lq_ne hn h0
  have q1 := sNx_lt s
  have e5 : ((1103515245 : Int64) * lN s + 12345) &&& 2147483647 = lN (sNx s) := by
    rw [lq_a, lq_b, lN_mul, lN_add, lq_and (by omega)]
    rfl
  have e6 : lN (sNx s) / 65536 - lN (sNx s) / 65536 / (nI n).toInt64 * (nI n).toInt64 = lN (sDr s n) := by
    rw [lq_i2l hn, lq_d, lq_div (by omega) (by decide), lq_rem (by omega) (by omega)]
    rfl
  rw [s199]
  simp only [s199_0, s199_1, s199_4, s199_5, s199_8, s199_9, s199_12, s199_13, s199_16, s199_17, s199_20, s199_21, s199_24, s199_27, s199_28, s199_29, s199_30, s199_31, s199_32, am_pu_s, am_pu_n, va_rf_s, va_rf_n, Option.bind_some, true_or, or_true, eq_self, if_true, if_false, ite_self, ite_true, ite_false, ↓reduceIte, reduceCtorEq, Nat.reduceEqDiff, Nat.reduceAdd, Nat.reduceLT, Nat.reduceLeDiff, Nat.reduceMul, Nat.reduceSub, not_true_eq_false, not_false_eq_true, and_self, and_true, true_and, and_false, false_and, am_I_wI, am_I_wJ, am_J_wI, am_J_wJ, am_R_wI, am_R_wJ, am_kd_wI, am_kd_wJ, am_ln_wI, am_ln_wJ, am_ix_wI, am_ix_wJ, am_F_wI, am_F_wJ, am_I_wC, am_J_wC, am_R_wC, am_kd_wC, am_ln_wC, am_ix_wC, am_F_wC, hF, kd66, h, e2, e3, e5, e6, lN_i]
end DR
