/-! which tune, which gate; at how many it passes; the gates' readers -/
def tI (S : am_St) (v : Int32) : Option Nat := if v < nI 0 ∨ nI 4 ≤ v then none else if S 1 v.toNatClampNeg 0 = 0 then none else some v.toNatClampNeg
def gI (S : am_St) (v : Int32) : Option Nat := if v < nI 0 ∨ nI (S 4 0 0) ≤ v then none else some v.toNatClampNeg
theorem tI_c (S : am_St) (v : Int32) : (∃ b, b < 4 ∧ v = nI b ∧ 0 < S 1 b 0 ∧ tI S v = some b) ∨ tI S v = none := by
  unfold tI
  by_cases h : v < nI 0 ∨ nI 4 ≤ v
  · right
    rw [if_pos h]
  · rw [if_neg h]
    rcases pk_ix v (show 4 < 2 ^ 31 by decide) with h1 | h1 | ⟨j, hj, rfl⟩
    · exact absurd (Or.inl h1) h
    · exact absurd (Or.inr h1) h
    · rw [nI_cl (show j < 2147483648 by omega)]
      by_cases h0 : S 1 j 0 = 0
      · right
        rw [if_pos h0]
      · left
        exact ⟨j, hj, rfl, by omega, if_neg h0⟩
theorem gI_c {S : am_St} (hG : S 4 0 0 ≤ 4) (v : Int32) : (∃ g, g < S 4 0 0 ∧ g < 4 ∧ v = nI g ∧ gI S v = some g) ∨ gI S v = none := by
  unfold gI
  by_cases h : v < nI 0 ∨ nI (S 4 0 0) ≤ v
  · right
    rw [if_pos h]
  · rw [if_neg h]
    rcases pk_ix v (show S 4 0 0 < 2 ^ 31 by omega) with h1 | h1 | ⟨j, hj, rfl⟩
    · exact absurd (Or.inl h1) h
    · exact absurd (Or.inr h1) h
    · rw [nI_cl (show j < 2147483648 by omega)]
      exact Or.inl ⟨j, hj, by omega, rfl, rfl⟩
theorem tI_n {S : am_St} {v : Int32} (h : tI S v = none) : v < nI 0 ∨ nI 4 ≤ v ∨ ∃ b, b < 4 ∧ v = nI b ∧ S 1 b 0 = 0 := by
  rcases pk_ix v (show 4 < 2 ^ 31 by decide) with h1 | h1 | ⟨j, hj, rfl⟩
  · exact Or.inl h1
  · exact Or.inr (Or.inl h1)
  · right; right
    refine ⟨j, hj, rfl, ?_⟩
    unfold tI at h
    rw [if_neg (by intro q; rcases q with q | q; exact nI_pos (by omega) q; exact nI_ge hj (by decide) q), nI_cl (show j < 2147483648 by omega)] at h
    split at h
    · assumption
    · cases h
theorem gI_n {S : am_St} (hG : S 4 0 0 ≤ 4) {v : Int32} (h : gI S v = none) : v < nI 0 ∨ nI (S 4 0 0) ≤ v := by
  rcases pk_ix v (show S 4 0 0 < 2 ^ 31 by omega) with h1 | h1 | ⟨j, hj, rfl⟩
  · exact Or.inl h1
  · exact Or.inr h1
  · unfold gI at h
    rw [if_neg (by intro q; rcases q with q | q; exact nI_pos (by omega) q; exact nI_ge hj (by omega) q)] at h
    cases h
section AT
variable {X : am_X} {d N : Nat} {σ : am_M} {S : am_St} {b g : Nat} {v : Int32}
theorem m76s (h : cRep S σ) (hO : sOK N S) (hb : b < 4) (h0 : 0 < S 1 b 0) : am_v X (d + 1) 76 [.ref (8 : Nat), .int (nI b)] σ = some (some (.ref (15 + 3 * b)), σ) := by
  have hF := h.1
  have h1 : ¬ nI b < nI 0 := nI_pos (by omega)
  have h2 : ¬ nI 4 ≤ nI b := nI_ge hb (by decide)
  have h3 : (nI (S 1 b 0) = nI 0) = (S 1 b 0 = 0) := nI_EQ (by have := sO_N hO hb; omega) (by decide)
  have h4 : ¬ S 1 b 0 = 0 := by omega
  rw [s76]
  simp only [s76_0, s76_1, s76_4, s76_5, s76_6, s76_9, s76_10, s76_13, s76_14, s76_15, s76_18, s76_21, s76_22, s76_25, s76_26, s76_29, s76_30, s76_31, s76_31n, am_pu_s, am_pu_n, va_rf_s, va_rf_n, Option.bind_some, true_or, or_true, eq_self, if_true, if_false, ite_self, ite_true, ite_false, ↓reduceIte, reduceCtorEq, Nat.reduceEqDiff, Nat.reduceAdd, Nat.reduceLT, Nat.reduceLeDiff, Nat.reduceMul, Nat.reduceSub, not_true_eq_false, not_false_eq_true, and_self, and_true, true_and, and_false, false_and, hF, kd8, rr8_0, h1, h2, ix9 hF hb, nI_cl (show b < 2147483648 by omega), rTu8 hF hb, kdT hF (isTu8 hb), cR_N h hb, h3, h4]
theorem m76n (h : cRep S σ) (hv : tI S v = none) : am_v X (d + 1) 76 [.ref (8 : Nat), .int v] σ = some (some .null, σ) := by
  have hF := h.1
  rw [s76]
  rcases tI_n hv with h1 | h1 | ⟨b, hb, rfl, h0⟩
  · simp only [s76_0, s76_1, s76_4, s76_5, s76_6, s76_9, s76_10, s76_13, s76_14, s76_15, s76_18, s76_21, s76_22, s76_25, s76_26, s76_29, s76_30, s76_31, s76_31n, am_pu_s, am_pu_n, va_rf_s, va_rf_n, Option.bind_some, true_or, or_true, eq_self, if_true, if_false, ite_self, ite_true, ite_false, ↓reduceIte, reduceCtorEq, Nat.reduceEqDiff, Nat.reduceAdd, Nat.reduceLT, Nat.reduceLeDiff, Nat.reduceMul, Nat.reduceSub, not_true_eq_false, not_false_eq_true, and_self, and_true, true_and, and_false, false_and, h1]
  · by_cases h2 : v < nI 0 <;> simp only [s76_0, s76_1, s76_4, s76_5, s76_6, s76_9, s76_10, s76_13, s76_14, s76_15, s76_18, s76_21, s76_22, s76_25, s76_26, s76_29, s76_30, s76_31, s76_31n, am_pu_s, am_pu_n, va_rf_s, va_rf_n, Option.bind_some, true_or, or_true, eq_self, if_true, if_false, ite_self, ite_true, ite_false, ↓reduceIte, reduceCtorEq, Nat.reduceEqDiff, Nat.reduceAdd, Nat.reduceLT, Nat.reduceLeDiff, Nat.reduceMul, Nat.reduceSub, not_true_eq_false, not_false_eq_true, and_self, and_true, true_and, and_false, false_and, h1, h2]
  · have h1 : ¬ nI b < nI 0 := nI_pos (by omega)
    have h2 : ¬ nI 4 ≤ nI b := nI_ge hb (by decide)
    have h3 := cR_N h hb
    rw [h0] at h3
    simp only [s76_0, s76_1, s76_4, s76_5, s76_6, s76_9, s76_10, s76_13, s76_14, s76_15, s76_18, s76_21, s76_22, s76_25, s76_26, s76_29, s76_30, s76_31, s76_31n, am_pu_s, am_pu_n, va_rf_s, va_rf_n, Option.bind_some, true_or, or_true, eq_self, if_true, if_false, ite_self, ite_true, ite_false, ↓reduceIte, reduceCtorEq, Nat.reduceEqDiff, Nat.reduceAdd, Nat.reduceLT, Nat.reduceLeDiff, Nat.reduceMul, Nat.reduceSub, not_true_eq_false, not_false_eq_true, and_self, and_true, true_and, and_false, false_and, hF, kd8, rr8_0, h1, h2, ix9 hF hb, nI_cl (show b < 2147483648 by omega), rTu8 hF hb, kdT hF (isTu8 hb), h3]
theorem m77s (h : cRep S σ) (hO : sOK N S) (hg : g < S 4 0 0) (hg4 : g < 4) : am_v X (d + 1) 77 [.ref (8 : Nat), .int (nI g)] σ = some (some (.ref (27 + g)), σ) := by
  have hF := h.1
  have h1 : ¬ nI g < nI 0 := nI_pos (by omega)
  rw [s77]
  have h2 : nI g < nI (S 4 0 0) := nI_lt hg (by have := sO_G hO; omega)
  simp only [s77_0, s77_1, s77_4, s77_5, s77_6, s77_9, s77_12, s77_13, s77_16, s77_17, s77_20, s77_21, s77_22, s77_22n, am_pu_s, am_pu_n, va_rf_s, va_rf_n, Option.bind_some, true_or, or_true, eq_self, if_true, if_false, ite_self, ite_true, ite_false, ↓reduceIte, reduceCtorEq, Nat.reduceEqDiff, Nat.reduceAdd, Nat.reduceLT, Nat.reduceLeDiff, Nat.reduceMul, Nat.reduceSub, not_true_eq_false, not_false_eq_true, and_self, and_true, true_and, and_false, false_and, hF, kd8, rr8_1, h1, h2, cR_G h, ix10 hF hg4, nI_cl (show g < 2147483648 by omega), rGa8 hF hg4]
theorem m77n (h : cRep S σ) (hO : sOK N S) (hv : gI S v = none) : am_v X (d + 1) 77 [.ref (8 : Nat), .int v] σ = some (some .null, σ) := by
  have hF := h.1
  rw [s77]
  rcases gI_n (sO_G hO) hv with h1 | h1
  · simp only [s77_0, s77_1, s77_4, s77_5, s77_6, s77_9, s77_12, s77_13, s77_16, s77_17, s77_20, s77_21, s77_22, s77_22n, am_pu_s, am_pu_n, va_rf_s, va_rf_n, Option.bind_some, true_or, or_true, eq_self, if_true, if_false, ite_self, ite_true, ite_false, ↓reduceIte, reduceCtorEq, Nat.reduceEqDiff, Nat.reduceAdd, Nat.reduceLT, Nat.reduceLeDiff, Nat.reduceMul, Nat.reduceSub, not_true_eq_false, not_false_eq_true, and_self, and_true, true_and, and_false, false_and, h1]
  · have h3 : ¬ v < nI (S 4 0 0) := Int32.not_lt.mpr h1
    by_cases h2 : v < nI 0 <;> simp only [s77_0, s77_1, s77_4, s77_5, s77_6, s77_9, s77_12, s77_13, s77_16, s77_17, s77_20, s77_21, s77_22, s77_22n, am_pu_s, am_pu_n, va_rf_s, va_rf_n, Option.bind_some, true_or, or_true, eq_self, if_true, if_false, ite_self, ite_true, ite_false, ↓reduceIte, reduceCtorEq, Nat.reduceEqDiff, Nat.reduceAdd, Nat.reduceLT, Nat.reduceLeDiff, Nat.reduceMul, Nat.reduceSub, not_true_eq_false, not_false_eq_true, and_self, and_true, true_and, and_false, false_and, hF, kd8, cR_G h, h3, h2]
theorem m152s (h : mRep S σ) (hO : sOK N S) (hb : b < 4) (h0 : 0 < S 1 b 0) : am_v X (d + 2) 152 [.ref (66 : Nat), .int (nI b)] σ = some (some (.int (nI 1)), σ) := by
  have hF := h.1
  have h1 : nI 0 ≤ nI b ∧ nI b ≤ nI 3 := ⟨nI_le (by omega) (by omega), nI_le (by omega) (by decide)⟩
  have h3 : (nI (S 1 b 0) ≤ nI 0) = (S 1 b 0 ≤ 0) := nI_LE (by have := sO_N hO hb; omega) (by decide)
  have h4 : ¬ S 1 b 0 ≤ 0 := by omega
  have h5 : ¬ nI 1 = nI 0 := by decide +kernel
  rw [s152]
  simp only [s152_0, s152_1, s152_2, s152_3, s152_6, s152_9, s152_10, s152_13, s152_14, s152_15, s152_18, s152_19, s152_22, s152_23, am_pu_s, am_pu_n, va_rf_s, va_rf_n, Option.bind_some, true_or, or_true, eq_self, if_true, if_false, ite_self, ite_true, ite_false, ↓reduceIte, reduceCtorEq, Nat.reduceEqDiff, Nat.reduceAdd, Nat.reduceLT, Nat.reduceLeDiff, Nat.reduceMul, Nat.reduceSub, not_true_eq_false, not_false_eq_true, and_self, and_true, true_and, and_false, false_and, m124, bI_t h1, h5, hF, kd66, rr66_1, ix68 hF hb, nI_cl (show b < 2147483648 by omega), mR_N h hb, h3, h4]
theorem m152n (h : mRep S σ) (hv : tI S v = none) : am_v X (d + 2) 152 [.ref (66 : Nat), .int v] σ = some (some (.int (nI 0)), σ) := by
  have hF := h.1
  rw [s152]
  rcases tI_n hv with h1 | h1 | ⟨b, hb, rfl, h0⟩
  · have h2 : ¬ (nI 0 ≤ v ∧ v ≤ nI 3) := fun q => Int32.not_le.mpr h1 q.1
    simp only [s152_0, s152_1, s152_2, s152_3, s152_6, s152_9, s152_10, s152_13, s152_14, s152_15, s152_18, s152_19, s152_22, s152_23, am_pu_s, am_pu_n, va_rf_s, va_rf_n, Option.bind_some, true_or, or_true, eq_self, if_true, if_false, ite_self, ite_true, ite_false, ↓reduceIte, reduceCtorEq, Nat.reduceEqDiff, Nat.reduceAdd, Nat.reduceLT, Nat.reduceLeDiff, Nat.reduceMul, Nat.reduceSub, not_true_eq_false, not_false_eq_true, and_self, and_true, true_and, and_false, false_and, m124, bI_f h2]
  · have h2 : ¬ (nI 0 ≤ v ∧ v ≤ nI 3) := fun q => by
      have := Int32.le_trans h1 q.2
      exact nI_ge (show 3 < 4 by decide) (by decide) this
    simp only [s152_0, s152_1, s152_2, s152_3, s152_6, s152_9, s152_10, s152_13, s152_14, s152_15, s152_18, s152_19, s152_22, s152_23, am_pu_s, am_pu_n, va_rf_s, va_rf_n, Option.bind_some, true_or, or_true, eq_self, if_true, if_false, ite_self, ite_true, ite_false, ↓reduceIte, reduceCtorEq, Nat.reduceEqDiff, Nat.reduceAdd, Nat.reduceLT, Nat.reduceLeDiff, Nat.reduceMul, Nat.reduceSub, not_true_eq_false, not_false_eq_true, and_self, and_true, true_and, and_false, false_and, m124, bI_f h2]
  · have h1 : nI 0 ≤ nI b ∧ nI b ≤ nI 3 := ⟨nI_le (by omega) (by omega), nI_le (by omega) (by decide)⟩
    have h3 := mR_N h hb
    rw [h0] at h3
    have h5 : ¬ nI 1 = nI 0 := by decide +kernel
    simp only [s152_0, s152_1, s152_2, s152_3, s152_6, s152_9, s152_10, s152_13, s152_14, s152_15, s152_18, s152_19, s152_22, s152_23, am_pu_s, am_pu_n, va_rf_s, va_rf_n, Option.bind_some, true_or, or_true, eq_self, if_true, if_false, ite_self, ite_true, ite_false, ↓reduceIte, reduceCtorEq, Nat.reduceEqDiff, Nat.reduceAdd, Nat.reduceLT, Nat.reduceLeDiff, Nat.reduceMul, Nat.reduceSub, not_true_eq_false, not_false_eq_true, and_self, and_true, true_and, and_false, false_and, m124, bI_t h1, h5, hF, kd66, rr66_1, ix68 hF hb, nI_cl (show b < 2147483648 by omega), h3, Int32.le_refl]
theorem m153s (h : mRep S σ) (hO : sOK N S) (hg : g < S 4 0 0) : am_v X (d + 2) 153 [.ref (66 : Nat), .int (nI g)] σ = some (some (.int (nI 1)), σ) := by
  have hF := h.1
  have hG := sO_G hO
  have h1 : nI 0 ≤ nI g ∧ nI g ≤ nI (S 4 0 0 - 1) := ⟨nI_le (by omega) (by omega), nI_le (by omega) (by omega)⟩
  rw [s153]
  simp only [s153_0, s153_1, s153_2, s153_3, s153_6, s153_7, s153_8, s153_11, am_pu_s, am_pu_n, va_rf_s, va_rf_n, Option.bind_some, true_or, or_true, eq_self, if_true, if_false, ite_self, ite_true, ite_false, ↓reduceIte, reduceCtorEq, Nat.reduceEqDiff, Nat.reduceAdd, Nat.reduceLT, Nat.reduceLeDiff, Nat.reduceMul, Nat.reduceSub, not_true_eq_false, not_false_eq_true, and_self, and_true, true_and, and_false, false_and, m124, hF, kd66, mR_G h, pk_sub (show 1 ≤ S 4 0 0 by omega), bI_t h1]
theorem m153n (h : mRep S σ) (hO : sOK N S) (hv : gI S v = none) : am_v X (d + 2) 153 [.ref (66 : Nat), .int v] σ = some (some (.int (nI 0)), σ) := by
  have hF := h.1
  have hG := sO_G hO
  have h1 : ¬ (nI 0 ≤ v ∧ v ≤ nI (S 4 0 0) - nI 1) := fun q => by
    rcases gI_n hG hv with h1 | h1
    · exact Int32.not_le.mpr h1 q.1
    · have h2 := Int32.le_trans h1 q.2
      have h3 : S 4 0 0 = 0 ∨ S 4 0 0 = 1 ∨ S 4 0 0 = 2 ∨ S 4 0 0 = 3 ∨ S 4 0 0 = 4 := by omega
      revert h2
      rcases h3 with e | e | e | e | e <;> rw [e] <;> decide +kernel
  rw [s153]
  simp only [s153_0, s153_1, s153_2, s153_3, s153_6, s153_7, s153_8, s153_11, am_pu_s, am_pu_n, va_rf_s, va_rf_n, Option.bind_some, true_or, or_true, eq_self, if_true, if_false, ite_self, ite_true, ite_false, ↓reduceIte, reduceCtorEq, Nat.reduceEqDiff, Nat.reduceAdd, Nat.reduceLT, Nat.reduceLeDiff, Nat.reduceMul, Nat.reduceSub, not_true_eq_false, not_false_eq_true, and_self, and_true, true_and, and_false, false_and, m124, hF, kd66, mR_G h, bI_f h1]
end AT
/-- at how many GATES a TUNE would pass, by so many notes higher -/
def sPs (S : am_St) (b y : Nat) : Nat := sSum (fun g => if S 6 g 0 ≤ sW (S 5 g 0) (S 0 b) (S 7 g 0 + y) (S 1 b 0) - S 3 b g then 1 else 0) (S 4 0 0)
theorem sSum_le (f : Nat → Nat) (c : Nat) (h : ∀ i, f i ≤ c) : ∀ n, sSum f n ≤ c * n
  | 0 => Nat.zero_le _
  | n + 1 => by
    have h1 := sSum_le f c h n
    have h2 := h n
    unfold sSum
    rw [Nat.mul_succ]
    omega
theorem sPs_le {S : am_St} {N b y : Nat} (hO : sOK N S) : sPs S b y ≤ 4 := by
  have h1 := sSum_le (fun g => if S 6 g 0 ≤ sW (S 5 g 0) (S 0 b) (S 7 g 0 + y) (S 1 b 0) - S 3 b g then 1 else 0) 1 (fun i => by split <;> omega) (S 4 0 0)
  have h2 := sO_G hO
  unfold sPs
  omega
theorem m117 {X : am_X} {d N : Nat} {σ : am_M} {S : am_St} {b y : Nat} (h : cRep S σ) (hO : sOK N S) (hb : b < 4) (hy : y < 50) : ∃ σ', am_v X (d + 6) 117 [.ref (0 : Nat), .ref (15 + 3 * b), .int (nI y)] σ = some (some (.int (nI (sPs S b y))), σ') ∧ am_pr nsA σ σ' := by
  have hG := sO_G hO
  have loop : ∀ m k σ1 l5, k + m = S 4 0 0 → am_pr nsA σ σ1 → ∃ σ', am_w X (d + 5) 117 5 [some (.ref (0 : Nat)), some (.ref (15 + 3 * b)), some (.int (nI y)), some (.int (nI (sSum (fun g => if S 6 g 0 ≤ sW (S 5 g 0) (S 0 b) (S 7 g 0 + y) (S 1 b 0) - S 3 b g then 1 else 0) k))), some (.int (nI k)), l5] [] σ1 = some (some (.int (nI (sPs S b y))), σ') ∧ am_pr nsA σ σ' := by
    intro m
    induction m with
    | zero =>
      intro k σ1 l5 hk hp1
      have hk : k = S 4 0 0 := by omega
      subst hk
      have h1 := h.prA hp1
      refine ⟨σ1, ?_, hp1⟩
      rw [s117_5]
      simp only [s117_0, s117_1, s117_2, s117_3, s117_7, s117_8, s117_11, s117_14, s117_17, s117_18, s117_21, s117_24, s117_26, s117_27, s117_27n, s117_29, s117_30, s117_33, s117_34, s117_34n, s117_36, s117_36n, s117_38, s117_41, s117_42, s117_43, s117_46, s117_46n, s117_48, s117_51, s117_54, s117_57, s117_60, s117_63, s117_64, am_pu_s, am_pu_n, va_rf_s, va_rf_n, Option.bind_some, true_or, or_true, eq_self, if_true, if_false, ite_self, ite_true, ite_false, ↓reduceIte, reduceCtorEq, Nat.reduceEqDiff, Nat.reduceAdd, Nat.reduceLT, Nat.reduceLeDiff, Nat.reduceMul, Nat.reduceSub, not_true_eq_false, not_false_eq_true, and_self, and_true, true_and, and_false, false_and, h1.1, kd0, kd8, rr0_2, cR_G h1, Int32.le_refl]
      rfl
    | succ m ih =>
      intro k σ1 l5 hk hp1
      have h1 := h.prA hp1
      have hk4 : k < 4 := by omega
      have h2 : ¬ nI (S 4 0 0) ≤ nI k := nI_ge (by omega) (by omega)
      have hwd := sO_Wd hO hk4
      obtain ⟨σ2, e2, hp2⟩ := m10 (X := X) (d := d) h1.1 (w := S 7 k 0 + y) (isTu8 hb) (cR_T h1 hb) (sO_N hO hb) (fun j hj => sO_B hO hb hj) (isGa8 hk4) hk4 (cR_no h1 hk4) (cR_K h1 hk4) (sO_K hO hk4) (by omega) (sO_W hO hb hk4)
      have h8 := h1.prA hp2
      have h4 := sW_le (S 5 k 0) (S 0 b) (S 7 k 0 + y) (S 1 b 0)
      have hN := sO_N hO hb
      have hT := sO_T hO hk4
      have h7 : (nI (sW (S 5 k 0) (S 0 b) (S 7 k 0 + y) (S 1 b 0) - S 3 b k) < nI (S 6 k 0)) = (sW (S 5 k 0) (S 0 b) (S 7 k 0 + y) (S 1 b 0) - S 3 b k < S 6 k 0) := nI_LT (by omega) (by omega)
      rw [s117_5]
      by_cases h9 : S 6 k 0 ≤ sW (S 5 k 0) (S 0 b) (S 7 k 0 + y) (S 1 b 0) - S 3 b k
      · have h10 : ¬ sW (S 5 k 0) (S 0 b) (S 7 k 0 + y) (S 1 b 0) - S 3 b k < S 6 k 0 := by omega
        simp only [s117_0, s117_1, s117_2, s117_3, s117_7, s117_8, s117_11, s117_14, s117_17, s117_18, s117_21, s117_24, s117_26, s117_27, s117_27n, s117_29, s117_30, s117_33, s117_34, s117_34n, s117_36, s117_36n, s117_38, s117_41, s117_42, s117_43, s117_46, s117_46n, s117_48, s117_51, s117_54, s117_57, s117_60, s117_63, s117_64, am_pu_s, am_pu_n, va_rf_s, va_rf_n, Option.bind_some, true_or, or_true, eq_self, if_true, if_false, ite_self, ite_true, ite_false, ↓reduceIte, reduceCtorEq, Nat.reduceEqDiff, Nat.reduceAdd, Nat.reduceLT, Nat.reduceLeDiff, Nat.reduceMul, Nat.reduceSub, not_true_eq_false, not_false_eq_true, and_self, and_true, true_and, and_false, false_and, h1.1, h8.1, kd0, kd8, rr0_2, rr0_4, rr8_1, cR_G h1, h2, kd54, ix10 h1.1 hk4, nI_cl (show k < 2147483648 by omega), rGa8 h1.1 hk4, kdG h1.1 (isGa8 hk4), kdG h8.1 (isGa8 hk4), cR_Wd h1 hk4, nI_add, e2, cR_Tl h8 hk4, h7, h10]
        have := ih (k + 1) σ2 (some (.ref (27 + k))) (by omega) (hp1.tr hp2)
        rw [sSum, if_pos h9] at this
        exact this
      · have h10 : sW (S 5 k 0) (S 0 b) (S 7 k 0 + y) (S 1 b 0) - S 3 b k < S 6 k 0 := by omega
        simp only [s117_0, s117_1, s117_2, s117_3, s117_7, s117_8, s117_11, s117_14, s117_17, s117_18, s117_21, s117_24, s117_26, s117_27, s117_27n, s117_29, s117_30, s117_33, s117_34, s117_34n, s117_36, s117_36n, s117_38, s117_41, s117_42, s117_43, s117_46, s117_46n, s117_48, s117_51, s117_54, s117_57, s117_60, s117_63, s117_64, am_pu_s, am_pu_n, va_rf_s, va_rf_n, Option.bind_some, true_or, or_true, eq_self, if_true, if_false, ite_self, ite_true, ite_false, ↓reduceIte, reduceCtorEq, Nat.reduceEqDiff, Nat.reduceAdd, Nat.reduceLT, Nat.reduceLeDiff, Nat.reduceMul, Nat.reduceSub, not_true_eq_false, not_false_eq_true, and_self, and_true, true_and, and_false, false_and, h1.1, h8.1, kd0, kd8, rr0_2, rr0_4, rr8_1, cR_G h1, h2, kd54, ix10 h1.1 hk4, nI_cl (show k < 2147483648 by omega), rGa8 h1.1 hk4, kdG h1.1 (isGa8 hk4), kdG h8.1 (isGa8 hk4), cR_Wd h1 hk4, nI_add, e2, cR_Tl h8 hk4, h7, h10]
        have := ih (k + 1) σ2 (some (.ref (27 + k))) (by omega) (hp1.tr hp2)
        rw [sSum, if_neg h9] at this
        exact this
  obtain ⟨σ', e2, hp2⟩ := loop (S 4 0 0) 0 σ none (by omega) (am_pr.rf h.1)
  refine ⟨σ', ?_, hp2⟩
  rw [s117]
  simp only [s117_0, s117_1, s117_2, s117_3, s117_7, s117_8, s117_11, s117_14, s117_17, s117_18, s117_21, s117_24, s117_26, s117_27, s117_27n, s117_29, s117_30, s117_33, s117_34, s117_34n, s117_36, s117_36n, s117_38, s117_41, s117_42, s117_43, s117_46, s117_46n, s117_48, s117_51, s117_54, s117_57, s117_60, s117_63, s117_64, am_pu_s, am_pu_n, va_rf_s, va_rf_n, Option.bind_some, true_or, or_true, eq_self, if_true, if_false, ite_self, ite_true, ite_false, ↓reduceIte, reduceCtorEq, Nat.reduceEqDiff, Nat.reduceAdd, Nat.reduceLT, Nat.reduceLeDiff, Nat.reduceMul, Nat.reduceSub, not_true_eq_false, not_false_eq_true, and_self, and_true, true_and, and_false, false_and]
  exact e2
theorem m161 {X : am_X} {d N : Nat} {σ : am_M} {S : am_St} {b y : Nat} (h : mRep S σ) (hO : sOK N S) (hb : b < 4) (hy : y < 50) : ∃ σ', am_v X (d + 6) 161 [.ref (66 : Nat), .int (nI b), .int (nI y)] σ = some (some (.int (nI (sPs S b y))), σ') ∧ am_pr nsA σ σ' := by
  have hG := sO_G hO
  have loop : ∀ m k σ1, k + m = S 4 0 0 → am_pr nsA σ σ1 → ∃ σ', am_w X (d + 5) 161 5 [some (.ref (66 : Nat)), some (.int (nI b)), some (.int (nI y)), some (.int (nI (sSum (fun g => if S 6 g 0 ≤ sW (S 5 g 0) (S 0 b) (S 7 g 0 + y) (S 1 b 0) - S 3 b g then 1 else 0) k))), some (.int (nI k))] [] σ1 = some (some (.int (nI (sPs S b y))), σ') ∧ am_pr nsA σ σ' := by
    intro m
    induction m with
    | zero =>
      intro k σ1 hk hp1
      have hk : k = S 4 0 0 := by omega
      subst hk
      have h1 := h.prA hp1
      refine ⟨σ1, ?_, hp1⟩
      rw [s161_5]
      simp only [s161_0, s161_1, s161_2, s161_3, s161_7, s161_8, s161_11, s161_14, s161_15, s161_16, s161_17, s161_19, s161_20, s161_23, s161_25, s161_26, s161_27, s161_28, s161_29, s161_32, s161_33, s161_34, s161_37, s161_38, s161_41, s161_43, s161_44, s161_47, s161_48, s161_51, s161_52, s161_53, s161_54, s161_57, s161_60, s161_61, am_pu_s, am_pu_n, va_rf_s, va_rf_n, Option.bind_some, true_or, or_true, eq_self, if_true, if_false, ite_self, ite_true, ite_false, ↓reduceIte, reduceCtorEq, Nat.reduceEqDiff, Nat.reduceAdd, Nat.reduceLT, Nat.reduceLeDiff, Nat.reduceMul, Nat.reduceSub, not_true_eq_false, not_false_eq_true, and_self, and_true, true_and, and_false, false_and, h1.1, kd66, mR_G h1, Int32.le_refl]
      rfl
    | succ m ih =>
      intro k σ1 hk hp1
      have h1 := h.prA hp1
      have hk4 : k < 4 := by omega
      have h2 : ¬ nI (S 4 0 0) ≤ nI k := nI_ge (by omega) (by omega)
      have hwd := sO_Wd hO hk4
      obtain ⟨σ2, e2, hp2⟩ := m175 (X := X) (d := d) h1 hO hb hk4 (show S 7 k 0 + y < 64 by omega) (sO_N hO hb)
      have h8 := h1.prA hp2
      have h4 := sW_le (S 5 k 0) (S 0 b) (S 7 k 0 + y) (S 1 b 0)
      have hN := sO_N hO hb
      have hT := sO_T hO hk4
      have h7 : (nI (sW (S 5 k 0) (S 0 b) (S 7 k 0 + y) (S 1 b 0) - S 3 b k) < nI (S 6 k 0)) = (sW (S 5 k 0) (S 0 b) (S 7 k 0 + y) (S 1 b 0) - S 3 b k < S 6 k 0) := nI_LT (by omega) (by omega)
      rw [s161_5]
      by_cases h9 : S 6 k 0 ≤ sW (S 5 k 0) (S 0 b) (S 7 k 0 + y) (S 1 b 0) - S 3 b k
      · have h10 : ¬ sW (S 5 k 0) (S 0 b) (S 7 k 0 + y) (S 1 b 0) - S 3 b k < S 6 k 0 := by omega
        simp only [s161_0, s161_1, s161_2, s161_3, s161_7, s161_8, s161_11, s161_14, s161_15, s161_16, s161_17, s161_19, s161_20, s161_23, s161_25, s161_26, s161_27, s161_28, s161_29, s161_32, s161_33, s161_34, s161_37, s161_38, s161_41, s161_43, s161_44, s161_47, s161_48, s161_51, s161_52, s161_53, s161_54, s161_57, s161_60, s161_61, am_pu_s, am_pu_n, va_rf_s, va_rf_n, Option.bind_some, true_or, or_true, eq_self, if_true, if_false, ite_self, ite_true, ite_false, ↓reduceIte, reduceCtorEq, Nat.reduceEqDiff, Nat.reduceAdd, Nat.reduceLT, Nat.reduceLeDiff, Nat.reduceMul, Nat.reduceSub, not_true_eq_false, not_false_eq_true, and_self, and_true, true_and, and_false, false_and, h1.1, h8.1, kd66, rr66_8, rr66_1, rr66_7, mR_G h1, h2, ix72 h1.1 hk4, ix68 h1.1 hb, ix71 h8.1 hk4, nI_cl (show k < 2147483648 by omega), nI_cl (show b < 2147483648 by omega), mR_Wd h1 hk4, mR_N h1 hb, nI_add, e2, mR_T h8 hk4, h7, h10]
        have := ih (k + 1) σ2 (by omega) (hp1.tr hp2)
        rw [sSum, if_pos h9] at this
        exact this
      · have h10 : sW (S 5 k 0) (S 0 b) (S 7 k 0 + y) (S 1 b 0) - S 3 b k < S 6 k 0 := by omega
        simp only [s161_0, s161_1, s161_2, s161_3, s161_7, s161_8, s161_11, s161_14, s161_15, s161_16, s161_17, s161_19, s161_20, s161_23, s161_25, s161_26, s161_27, s161_28, s161_29, s161_32, s161_33, s161_34, s161_37, s161_38, s161_41, s161_43, s161_44, s161_47, s161_48, s161_51, s161_52, s161_53, s161_54, s161_57, s161_60, s161_61, am_pu_s, am_pu_n, va_rf_s, va_rf_n, Option.bind_some, true_or, or_true, eq_self, if_true, if_false, ite_self, ite_true, ite_false, ↓reduceIte, reduceCtorEq, Nat.reduceEqDiff, Nat.reduceAdd, Nat.reduceLT, Nat.reduceLeDiff, Nat.reduceMul, Nat.reduceSub, not_true_eq_false, not_false_eq_true, and_self, and_true, true_and, and_false, false_and, h1.1, h8.1, kd66, rr66_8, rr66_1, rr66_7, mR_G h1, h2, ix72 h1.1 hk4, ix68 h1.1 hb, ix71 h8.1 hk4, nI_cl (show k < 2147483648 by omega), nI_cl (show b < 2147483648 by omega), mR_Wd h1 hk4, mR_N h1 hb, nI_add, e2, mR_T h8 hk4, h7, h10]
        have := ih (k + 1) σ2 (by omega) (hp1.tr hp2)
        rw [sSum, if_neg h9] at this
        exact this
  obtain ⟨σ', e2, hp2⟩ := loop (S 4 0 0) 0 σ (by omega) (am_pr.rf h.1)
  refine ⟨σ', ?_, hp2⟩
  rw [s161]
  simp only [s161_0, s161_1, s161_2, s161_3, s161_7, s161_8, s161_11, s161_14, s161_15, s161_16, s161_17, s161_19, s161_20, s161_23, s161_25, s161_26, s161_27, s161_28, s161_29, s161_32, s161_33, s161_34, s161_37, s161_38, s161_41, s161_43, s161_44, s161_47, s161_48, s161_51, s161_52, s161_53, s161_54, s161_57, s161_60, s161_61, am_pu_s, am_pu_n, va_rf_s, va_rf_n, Option.bind_some, true_or, or_true, eq_self, if_true, if_false, ite_self, ite_true, ite_false, ↓reduceIte, reduceCtorEq, Nat.reduceEqDiff, Nat.reduceAdd, Nat.reduceLT, Nat.reduceLeDiff, Nat.reduceMul, Nat.reduceSub, not_true_eq_false, not_false_eq_true, and_self, and_true, true_and, and_false, false_and]
  exact e2
