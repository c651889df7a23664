/-! the same, of the model; tune and beat -/
section MT
variable {X : am_X} {d N b : Nat} {σ : am_M} {S : am_St}
theorem m155 (h : mRep S σ) (hO : sOK N S) (hb : b < 4) : am_v X (d + 2) 155 [.ref (66 : Nat), .int (nI b)] σ = some (some (.int (nI (sSum (fun j => sBits (S 0 b j)) (S 1 b 0)))), σ) := by
  have hF := h.1
  have hN := sO_N hO hb
  have h1 := am_it0 (fun i s => am_w X (d + 1) 155 4 [some (.ref (66 : Nat)), some (.int (nI b)), some (.int (nI s)), some (.int (nI i))] [] σ) (fun j s => s + sBits (S 0 b j)) (S 1 b 0) (fun i s hi => by
    have h1 : ¬ nI (S 1 b 0) ≤ nI i := nI_ge hi (by omega)
    have hi6 : i < 60 := by omega
    try dsimp only
    rw [s155_4]
    simp only [s155_0, s155_1, s155_2, s155_3, s155_5, s155_6, s155_9, s155_10, s155_11, s155_14, s155_15, s155_16, s155_17, s155_18, s155_21, s155_24, s155_25, s155_26, s155_29, s155_32, s155_33, am_pu_s, am_pu_n, va_rf_s, va_rf_n, Option.bind_some, true_or, or_true, eq_self, if_true, if_false, ite_self, ite_true, ite_false, ↓reduceIte, reduceCtorEq, Nat.reduceEqDiff, Nat.reduceAdd, Nat.reduceLT, Nat.reduceLeDiff, Nat.reduceMul, Nat.reduceSub, not_true_eq_false, not_false_eq_true, and_self, and_true, true_and, and_false, false_and, nI_add, h1, hF, kd66, rr66_1, ix68 hF hb, nI_cl (show b < 2147483648 by omega), mR_N h hb, m154 h hb hi6, m126, wBits_n _ (sO_B hO hb hi6)]) 0
  rw [s155]
  simp only [s155_0, s155_1, s155_2, s155_3]
  rw [h1]
  simp only [s155_0, s155_1, s155_2, s155_3, s155_4, s155_5, s155_6, s155_9, s155_10, s155_11, s155_14, s155_15, s155_16, s155_17, s155_18, s155_21, s155_24, s155_25, s155_26, s155_29, s155_32, s155_33, am_pu_s, am_pu_n, va_rf_s, va_rf_n, Option.bind_some, true_or, or_true, eq_self, if_true, if_false, ite_self, ite_true, ite_false, ↓reduceIte, reduceCtorEq, Nat.reduceEqDiff, Nat.reduceAdd, Nat.reduceLT, Nat.reduceLeDiff, Nat.reduceMul, Nat.reduceSub, not_true_eq_false, not_false_eq_true, and_self, and_true, true_and, and_false, false_and, hF, kd66, rr66_1, ix68 hF hb, nI_cl (show b < 2147483648 by omega), mR_N h hb, Int32.le_refl, am_fd_sum]
theorem m156 (h : mRep S σ) (hO : sOK N S) (hb : b < 4) : am_v X (d + 2) 156 [.ref (66 : Nat), .int (nI b)] σ = some (some (.int (nI (sSum (fun j => if 0 ≤ sBits (S 0 b j) ∧ sBits (S 0 b j) ≤ 0 then 1 else 0) (S 1 b 0)))), σ) := by
  have hF := h.1
  have hN := sO_N hO hb
  have h1 := am_it0 (fun i s => am_w X (d + 1) 156 4 [some (.ref (66 : Nat)), some (.int (nI b)), some (.int (nI s)), some (.int (nI i))] [] σ) (fun j s => s + if 0 ≤ sBits (S 0 b j) ∧ sBits (S 0 b j) ≤ 0 then 1 else 0) (S 1 b 0) (fun i s hi => by
    have h1 : ¬ nI (S 1 b 0) ≤ nI i := nI_ge hi (by omega)
    have hi6 : i < 60 := by omega
    have hB := sO_B hO hb hi6
    have h2 := sBits0 _ hB
    have e1 : (nI (S 0 b i) = nI 0) = (S 0 b i = 0) := nI_EQ (by omega) (by decide)
    try dsimp only
    rw [s156_4]
    by_cases h3 : S 0 b i = 0
    · rw [if_pos ⟨Nat.zero_le _, Nat.le_of_eq (h2.mpr h3)⟩]
      simp only [s156_0, s156_1, s156_2, s156_3, s156_5, s156_6, s156_9, s156_10, s156_11, s156_14, s156_15, s156_16, s156_17, s156_18, s156_21, s156_24, s156_25, s156_28, s156_29, s156_30, s156_31, s156_34, s156_37, s156_38, am_pu_s, am_pu_n, va_rf_s, va_rf_n, Option.bind_some, true_or, or_true, eq_self, if_true, if_false, ite_self, ite_true, ite_false, ↓reduceIte, reduceCtorEq, Nat.reduceEqDiff, Nat.reduceAdd, Nat.reduceLT, Nat.reduceLeDiff, Nat.reduceMul, Nat.reduceSub, not_true_eq_false, not_false_eq_true, and_self, and_true, true_and, and_false, false_and, nI_add, h1, hF, kd66, rr66_1, ix68 hF hb, nI_cl (show b < 2147483648 by omega), mR_N h hb, m154 h hb hi6, e1, h3]
    · rw [if_neg (fun q => h3 (h2.mp (by omega)))]
      simp only [s156_0, s156_1, s156_2, s156_3, s156_5, s156_6, s156_9, s156_10, s156_11, s156_14, s156_15, s156_16, s156_17, s156_18, s156_21, s156_24, s156_25, s156_28, s156_29, s156_30, s156_31, s156_34, s156_37, s156_38, am_pu_s, am_pu_n, va_rf_s, va_rf_n, Option.bind_some, true_or, or_true, eq_self, if_true, if_false, ite_self, ite_true, ite_false, ↓reduceIte, reduceCtorEq, Nat.reduceEqDiff, Nat.reduceAdd, Nat.reduceLT, Nat.reduceLeDiff, Nat.reduceMul, Nat.reduceSub, not_true_eq_false, not_false_eq_true, and_self, and_true, true_and, and_false, false_and, nI_add, h1, hF, kd66, rr66_1, ix68 hF hb, nI_cl (show b < 2147483648 by omega), mR_N h hb, m154 h hb hi6, e1, h3]) 0
  rw [s156]
  simp only [s156_0, s156_1, s156_2, s156_3]
  rw [h1]
  simp only [s156_0, s156_1, s156_2, s156_3, s156_4, s156_5, s156_6, s156_9, s156_10, s156_11, s156_14, s156_15, s156_16, s156_17, s156_18, s156_21, s156_24, s156_25, s156_28, s156_29, s156_30, s156_31, s156_34, s156_37, s156_38, am_pu_s, am_pu_n, va_rf_s, va_rf_n, Option.bind_some, true_or, or_true, eq_self, if_true, if_false, ite_self, ite_true, ite_false, ↓reduceIte, reduceCtorEq, Nat.reduceEqDiff, Nat.reduceAdd, Nat.reduceLT, Nat.reduceLeDiff, Nat.reduceMul, Nat.reduceSub, not_true_eq_false, not_false_eq_true, and_self, and_true, true_and, and_false, false_and, hF, kd66, rr66_1, ix68 hF hb, nI_cl (show b < 2147483648 by omega), mR_N h hb, Int32.le_refl, am_fd_sum]
theorem m157 (h : mRep S σ) (hO : sOK N S) (hb : b < 4) : am_v X (d + 2) 157 [.ref (66 : Nat), .int (nI b)] σ = some (some (.int (nI (sSum (fun j => if 2 ≤ sBits (S 0 b j) ∧ sBits (S 0 b j) ≤ 7 then 1 else 0) (S 1 b 0)))), σ) := by
  have hF := h.1
  have hN := sO_N hO hb
  have h1 := am_it0 (fun i s => am_w X (d + 1) 157 4 [some (.ref (66 : Nat)), some (.int (nI b)), some (.int (nI s)), some (.int (nI i))] [] σ) (fun j s => s + if 2 ≤ sBits (S 0 b j) ∧ sBits (S 0 b j) ≤ 7 then 1 else 0) (S 1 b 0) (fun i s hi => by
    have h1 : ¬ nI (S 1 b 0) ≤ nI i := nI_ge hi (by omega)
    have hi6 : i < 60 := by omega
    have hB := sO_B hO hb hi6
    have h2 := sBits_le (S 0 b i)
    have e1 : (nI (sBits (S 0 b i)) ≤ nI 1) = (sBits (S 0 b i) ≤ 1) := nI_LE (by omega) (by decide)
    try dsimp only
    rw [s157_4]
    by_cases h3 : sBits (S 0 b i) ≤ 1
    · rw [if_neg (by omega)]
      simp only [s157_0, s157_1, s157_2, s157_3, s157_5, s157_6, s157_9, s157_10, s157_11, s157_14, s157_15, s157_16, s157_17, s157_18, s157_21, s157_24, s157_25, s157_28, s157_29, s157_32, s157_33, s157_34, s157_35, s157_38, s157_41, s157_42, am_pu_s, am_pu_n, va_rf_s, va_rf_n, Option.bind_some, true_or, or_true, eq_self, if_true, if_false, ite_self, ite_true, ite_false, ↓reduceIte, reduceCtorEq, Nat.reduceEqDiff, Nat.reduceAdd, Nat.reduceLT, Nat.reduceLeDiff, Nat.reduceMul, Nat.reduceSub, not_true_eq_false, not_false_eq_true, and_self, and_true, true_and, and_false, false_and, nI_add, h1, hF, kd66, rr66_1, ix68 hF hb, nI_cl (show b < 2147483648 by omega), mR_N h hb, m154 h hb hi6, m126, wBits_n _ hB, e1, h3]
    · rw [if_pos (by omega)]
      simp only [s157_0, s157_1, s157_2, s157_3, s157_5, s157_6, s157_9, s157_10, s157_11, s157_14, s157_15, s157_16, s157_17, s157_18, s157_21, s157_24, s157_25, s157_28, s157_29, s157_32, s157_33, s157_34, s157_35, s157_38, s157_41, s157_42, am_pu_s, am_pu_n, va_rf_s, va_rf_n, Option.bind_some, true_or, or_true, eq_self, if_true, if_false, ite_self, ite_true, ite_false, ↓reduceIte, reduceCtorEq, Nat.reduceEqDiff, Nat.reduceAdd, Nat.reduceLT, Nat.reduceLeDiff, Nat.reduceMul, Nat.reduceSub, not_true_eq_false, not_false_eq_true, and_self, and_true, true_and, and_false, false_and, nI_add, h1, hF, kd66, rr66_1, ix68 hF hb, nI_cl (show b < 2147483648 by omega), mR_N h hb, m154 h hb hi6, m126, wBits_n _ hB, e1, h3]) 0
  rw [s157]
  simp only [s157_0, s157_1, s157_2, s157_3]
  rw [h1]
  simp only [s157_0, s157_1, s157_2, s157_3, s157_4, s157_5, s157_6, s157_9, s157_10, s157_11, s157_14, s157_15, s157_16, s157_17, s157_18, s157_21, s157_24, s157_25, s157_28, s157_29, s157_32, s157_33, s157_34, s157_35, s157_38, s157_41, s157_42, am_pu_s, am_pu_n, va_rf_s, va_rf_n, Option.bind_some, true_or, or_true, eq_self, if_true, if_false, ite_self, ite_true, ite_false, ↓reduceIte, reduceCtorEq, Nat.reduceEqDiff, Nat.reduceAdd, Nat.reduceLT, Nat.reduceLeDiff, Nat.reduceMul, Nat.reduceSub, not_true_eq_false, not_false_eq_true, and_self, and_true, true_and, and_false, false_and, hF, kd66, rr66_1, ix68 hF hb, nI_cl (show b < 2147483648 by omega), mR_N h hb, Int32.le_refl, am_fd_sum]
theorem m158 (h : mRep S σ) (hO : sOK N S) (hb : b < 4) : am_v X (d + 3) 158 [.ref (66 : Nat), .int (nI b)] σ = some (some (.int (wM (sMax (fun j => sHh (S 0 b j)) (S 1 b 0)))), σ) := by
  have hF := h.1
  have hN := sO_N hO hb
  have loop : ∀ m k, k + m = S 1 b 0 → am_w X (d + 2) 158 4 [some (.ref (66 : Nat)), some (.int (nI b)), some (.int (nI (sOr (S 0 b) k))), some (.int (nI k))] [] σ = some (some (.int (wM (sMax (fun j => sHh (S 0 b j)) (S 1 b 0)))), σ) := by
    intro m
    induction m with
    | zero =>
      intro k hk
      have hk : k = S 1 b 0 := by omega
      subst hk
      have q : ∀ j, j < S 1 b 0 → S 0 b j < 128 := fun j hj => sO_B hO hb (by omega)
      rw [s158_4]
      simp only [s158_0, s158_1, s158_2, s158_3, s158_5, s158_6, s158_9, s158_10, s158_11, s158_14, s158_15, s158_16, s158_17, s158_18, s158_21, s158_22, s158_23, s158_26, s158_29, s158_30, s158_33, am_pu_s, am_pu_n, va_rf_s, va_rf_n, Option.bind_some, true_or, or_true, eq_self, if_true, if_false, ite_self, ite_true, ite_false, ↓reduceIte, reduceCtorEq, Nat.reduceEqDiff, Nat.reduceAdd, Nat.reduceLT, Nat.reduceLeDiff, Nat.reduceMul, Nat.reduceSub, not_true_eq_false, not_false_eq_true, and_self, and_true, true_and, and_false, false_and, hF, kd66, rr66_1, ix68 hF hb, nI_cl (show b < 2147483648 by omega), mR_N h hb, Int32.le_refl, m129, wHiM_n _ (sOr_lt _ q), wHi_M _ (sOr_lt _ q), sHh_sOr _ q]
    | succ m ih =>
      intro k hk
      have h1 : ¬ nI (S 1 b 0) ≤ nI k := nI_ge (by omega) (by omega)
      have hi6 : k < 60 := by omega
      have q : ∀ j, j < k → S 0 b j < 128 := fun j hj => sO_B hO hb (by omega)
      rw [s158_4]
      simp only [s158_0, s158_1, s158_2, s158_3, s158_5, s158_6, s158_9, s158_10, s158_11, s158_14, s158_15, s158_16, s158_17, s158_18, s158_21, s158_22, s158_23, s158_26, s158_29, s158_30, s158_33, am_pu_s, am_pu_n, va_rf_s, va_rf_n, Option.bind_some, true_or, or_true, eq_self, if_true, if_false, ite_self, ite_true, ite_false, ↓reduceIte, reduceCtorEq, Nat.reduceEqDiff, Nat.reduceAdd, Nat.reduceLT, Nat.reduceLeDiff, Nat.reduceMul, Nat.reduceSub, not_true_eq_false, not_false_eq_true, and_self, and_true, true_and, and_false, false_and, nI_add, h1, hF, kd66, rr66_1, ix68 hF hb, nI_cl (show b < 2147483648 by omega), mR_N h hb, m154 h hb hi6, nI_or _ (sOr_lt k q) _ (sO_B hO hb hi6)]
      exact ih (k + 1) (by omega)
  rw [s158]
  simp only [s158_0, s158_1, s158_2, s158_3, s158_5, s158_6, s158_9, s158_10, s158_11, s158_14, s158_15, s158_16, s158_17, s158_18, s158_21, s158_22, s158_23, s158_26, s158_29, s158_30, s158_33, am_pu_s, am_pu_n, va_rf_s, va_rf_n, Option.bind_some, true_or, or_true, eq_self, if_true, if_false, ite_self, ite_true, ite_false, ↓reduceIte, reduceCtorEq, Nat.reduceEqDiff, Nat.reduceAdd, Nat.reduceLT, Nat.reduceLeDiff, Nat.reduceMul, Nat.reduceSub, not_true_eq_false, not_false_eq_true, and_self, and_true, true_and, and_false, false_and]
  exact loop (S 1 b 0) 0 (by omega)
theorem m159 (h : mRep S σ) (hO : sOK N S) (hb : b < 4) (h0 : 0 < S 1 b 0) : am_v X (d + 2) 159 [.ref (66 : Nat), .int (nI b)] σ = some (some (.int (nI (sPer (S 0 b) (S 1 b 0) 1 (S 1 b 0 - 1)))), σ) := by
  have hF := h.1
  have hN := sO_N hO hb
  have inner : ∀ p, 0 < p → p ≤ S 1 b 0 → ∀ m k, k + m = S 1 b 0 - p → am_w X (d + 1) 159 17 [some (.ref (66 : Nat)), some (.int (nI b)), some (.int (nI p)), some (.int (bI (∀ i, i < k → S 0 b i = S 0 b (i + p)))), some (.int (nI k))] [] σ = am_w X (d + 1) 159 65 [some (.ref (66 : Nat)), some (.int (nI b)), some (.int (nI p)), some (.int (bI (sSf (S 0 b) (S 1 b 0) p))), some (.int (nI (S 1 b 0 - p)))] [] σ := by
    intro p hp hpn m
    induction m with
    | zero =>
      intro k hk
      have hk : k = S 1 b 0 - p := by omega
      subst hk
      have e1 : nI (S 1 b 0) ≤ nI (S 1 b 0 - p + p) := nI_le (by omega) (by omega)
      rw [s159_17]
      simp only [s159_17, s159_19, s159_20, s159_21, s159_22, s159_25, s159_26, s159_27, am_pu_s, am_pu_n, va_rf_s, va_rf_n, Option.bind_some, true_or, or_true, eq_self, if_true, if_false, ite_self, ite_true, ite_false, ↓reduceIte, reduceCtorEq, Nat.reduceEqDiff, Nat.reduceAdd, Nat.reduceLT, Nat.reduceLeDiff, Nat.reduceMul, Nat.reduceSub, not_true_eq_false, not_false_eq_true, and_self, and_true, true_and, and_false, false_and, nI_add, hF, kd66, rr66_1, ix68 hF hb, nI_cl (show b < 2147483648 by omega), mR_N h hb, e1]
    | succ m ih =>
      intro k hk
      have hi6 : k < 60 := by omega
      have hi7 : k + p < 60 := by omega
      have h1 : ¬ nI (S 1 b 0) ≤ nI (k + p) := nI_ge (by omega) (by omega)
      have b1 := sO_B hO hb hi6
      have b2 := sO_B hO hb hi7
      have e1 : (nI (S 0 b k) = nI (S 0 b (k + p))) = (S 0 b k = S 0 b (k + p)) := nI_EQ (by omega) (by omega)
      have hh := ih (k + 1) (by omega)
      rw [s159_17]
      by_cases h2 : ∀ i, i < k → S 0 b i = S 0 b (i + p)
      · by_cases h3 : S 0 b k = S 0 b (k + p)
        · rw [bI_t (show ∀ i, i < k + 1 → S 0 b i = S 0 b (i + p) from fun i hi => by
            by_cases h5 : i = k
            · rw [h5]; exact h3
            · exact h2 i (by omega))] at hh
          rw [bI_t h2]
          simp only [s159_0, s159_1, s159_2, s159_3, s159_4, s159_7, s159_8, s159_9, s159_12, s159_13, s159_14, s159_15, s159_19, s159_20, s159_21, s159_22, s159_25, s159_26, s159_27, s159_30, s159_31, s159_34, s159_35, s159_36, s159_38, s159_41, s159_42, s159_43, s159_45, s159_46, s159_47, s159_50, s159_53, s159_54, s159_57, s159_58, s159_59, s159_62, s159_70, s159_71, s159_74, s159_77, s159_78, s159_81, s159_82, s159_83, am_pu_s, am_pu_n, va_rf_s, va_rf_n, Option.bind_some, true_or, or_true, eq_self, if_true, if_false, ite_self, ite_true, ite_false, ↓reduceIte, reduceCtorEq, Nat.reduceEqDiff, Nat.reduceAdd, Nat.reduceLT, Nat.reduceLeDiff, Nat.reduceMul, Nat.reduceSub, not_true_eq_false, not_false_eq_true, and_self, and_true, true_and, and_false, false_and, nI_add, nI_10, h1, hF, kd66, rr66_1, ix68 hF hb, nI_cl (show b < 2147483648 by omega), mR_N h hb, m154 h hb hi6, m154 h hb hi7, e1, h3]
          exact hh
        · rw [bI_f (show ¬ ∀ i, i < k + 1 → S 0 b i = S 0 b (i + p) from fun q => h3 (q k (by omega)))] at hh
          rw [bI_t h2]
          simp only [s159_0, s159_1, s159_2, s159_3, s159_4, s159_7, s159_8, s159_9, s159_12, s159_13, s159_14, s159_15, s159_19, s159_20, s159_21, s159_22, s159_25, s159_26, s159_27, s159_30, s159_31, s159_34, s159_35, s159_36, s159_38, s159_41, s159_42, s159_43, s159_45, s159_46, s159_47, s159_50, s159_53, s159_54, s159_57, s159_58, s159_59, s159_62, s159_70, s159_71, s159_74, s159_77, s159_78, s159_81, s159_82, s159_83, am_pu_s, am_pu_n, va_rf_s, va_rf_n, Option.bind_some, true_or, or_true, eq_self, if_true, if_false, ite_self, ite_true, ite_false, ↓reduceIte, reduceCtorEq, Nat.reduceEqDiff, Nat.reduceAdd, Nat.reduceLT, Nat.reduceLeDiff, Nat.reduceMul, Nat.reduceSub, not_true_eq_false, not_false_eq_true, and_self, and_true, true_and, and_false, false_and, nI_add, nI_10, h1, hF, kd66, rr66_1, ix68 hF hb, nI_cl (show b < 2147483648 by omega), mR_N h hb, m154 h hb hi6, m154 h hb hi7, e1, h3]
          exact hh
      · rw [bI_f (show ¬ ∀ i, i < k + 1 → S 0 b i = S 0 b (i + p) from fun q => h2 fun i hi => q i (by omega))] at hh
        rw [bI_f h2]
        simp only [s159_0, s159_1, s159_2, s159_3, s159_4, s159_7, s159_8, s159_9, s159_12, s159_13, s159_14, s159_15, s159_19, s159_20, s159_21, s159_22, s159_25, s159_26, s159_27, s159_30, s159_31, s159_34, s159_35, s159_36, s159_38, s159_41, s159_42, s159_43, s159_45, s159_46, s159_47, s159_50, s159_53, s159_54, s159_57, s159_58, s159_59, s159_62, s159_70, s159_71, s159_74, s159_77, s159_78, s159_81, s159_82, s159_83, am_pu_s, am_pu_n, va_rf_s, va_rf_n, Option.bind_some, true_or, or_true, eq_self, if_true, if_false, ite_self, ite_true, ite_false, ↓reduceIte, reduceCtorEq, Nat.reduceEqDiff, Nat.reduceAdd, Nat.reduceLT, Nat.reduceLeDiff, Nat.reduceMul, Nat.reduceSub, not_true_eq_false, not_false_eq_true, and_self, and_true, true_and, and_false, false_and, nI_add, nI_10, h1, hF, kd66, rr66_1, ix68 hF hb, nI_cl (show b < 2147483648 by omega), mR_N h hb]
        exact hh
  have loop : ∀ m k l3 l4, 0 < k → k + m = S 1 b 0 → am_w X (d + 1) 159 2 [some (.ref (66 : Nat)), some (.int (nI b)), some (.int (nI k)), l3, l4] [] σ = some (some (.int (nI (sPer (S 0 b) (S 1 b 0) k m))), σ) := by
    intro m
    induction m with
    | zero =>
      intro k l3 l4 hk0 hk
      have hk : k = S 1 b 0 := by omega
      subst hk
      rw [s159_2]
      simp only [s159_0, s159_1, s159_3, s159_4, s159_7, s159_8, s159_9, s159_12, s159_13, s159_14, s159_15, s159_19, s159_20, s159_21, s159_22, s159_25, s159_26, s159_27, s159_30, s159_31, s159_34, s159_35, s159_36, s159_38, s159_41, s159_42, s159_43, s159_45, s159_46, s159_47, s159_50, s159_53, s159_54, s159_57, s159_58, s159_59, s159_62, s159_65, s159_66, s159_69, s159_70, s159_71, s159_74, s159_77, s159_78, s159_81, s159_82, s159_83, am_pu_s, am_pu_n, va_rf_s, va_rf_n, Option.bind_some, true_or, or_true, eq_self, if_true, if_false, ite_self, ite_true, ite_false, ↓reduceIte, reduceCtorEq, Nat.reduceEqDiff, Nat.reduceAdd, Nat.reduceLT, Nat.reduceLeDiff, Nat.reduceMul, Nat.reduceSub, not_true_eq_false, not_false_eq_true, and_self, and_true, true_and, and_false, false_and, hF, kd66, rr66_1, ix68 hF hb, nI_cl (show b < 2147483648 by omega), mR_N h hb, Int32.le_refl]
      rfl
    | succ m ih =>
      intro k l3 l4 hk0 hk
      have h1 : ¬ nI (S 1 b 0) ≤ nI k := nI_ge (by omega) (by omega)
      have h2 := inner k hk0 (by omega) (S 1 b 0 - k) 0 (by omega)
      rw [bI_t (show ∀ i, i < 0 → S 0 b i = S 0 b (i + k) from fun i hi => absurd hi (by omega))] at h2
      rw [s159_2]
      by_cases h3 : sSf (S 0 b) (S 1 b 0) k
      · rw [bI_t h3] at h2
        rw [sPer, if_pos h3]
        simp only [s159_0, s159_1, s159_3, s159_4, s159_7, s159_8, s159_9, s159_12, s159_13, s159_14, s159_15, s159_19, s159_20, s159_21, s159_22, s159_25, s159_26, s159_27, s159_30, s159_31, s159_34, s159_35, s159_36, s159_38, s159_41, s159_42, s159_43, s159_45, s159_46, s159_47, s159_50, s159_53, s159_54, s159_57, s159_58, s159_59, s159_62, s159_65, s159_66, s159_69, s159_70, s159_71, s159_74, s159_77, s159_78, s159_81, s159_82, s159_83, am_pu_s, am_pu_n, va_rf_s, va_rf_n, Option.bind_some, true_or, or_true, eq_self, if_true, if_false, ite_self, ite_true, ite_false, ↓reduceIte, reduceCtorEq, Nat.reduceEqDiff, Nat.reduceAdd, Nat.reduceLT, Nat.reduceLeDiff, Nat.reduceMul, Nat.reduceSub, not_true_eq_false, not_false_eq_true, and_self, and_true, true_and, and_false, false_and, nI_add, nI_10, h1, hF, kd66, rr66_1, ix68 hF hb, nI_cl (show b < 2147483648 by omega), mR_N h hb, h2]
      · rw [bI_f h3] at h2
        rw [sPer, if_neg h3]
        simp only [s159_0, s159_1, s159_3, s159_4, s159_7, s159_8, s159_9, s159_12, s159_13, s159_14, s159_15, s159_19, s159_20, s159_21, s159_22, s159_25, s159_26, s159_27, s159_30, s159_31, s159_34, s159_35, s159_36, s159_38, s159_41, s159_42, s159_43, s159_45, s159_46, s159_47, s159_50, s159_53, s159_54, s159_57, s159_58, s159_59, s159_62, s159_65, s159_66, s159_69, s159_70, s159_71, s159_74, s159_77, s159_78, s159_81, s159_82, s159_83, am_pu_s, am_pu_n, va_rf_s, va_rf_n, Option.bind_some, true_or, or_true, eq_self, if_true, if_false, ite_self, ite_true, ite_false, ↓reduceIte, reduceCtorEq, Nat.reduceEqDiff, Nat.reduceAdd, Nat.reduceLT, Nat.reduceLeDiff, Nat.reduceMul, Nat.reduceSub, not_true_eq_false, not_false_eq_true, and_self, and_true, true_and, and_false, false_and, nI_add, nI_10, h1, hF, kd66, rr66_1, ix68 hF hb, nI_cl (show b < 2147483648 by omega), mR_N h hb, h2]
        exact ih (k + 1) _ _ (by omega) (by omega)
  rw [s159]
  simp only [s159_0, s159_1, s159_3, s159_4, s159_7, s159_8, s159_9, s159_12, s159_13, s159_14, s159_15, s159_17, s159_19, s159_20, s159_21, s159_22, s159_25, s159_26, s159_27, s159_30, s159_31, s159_34, s159_35, s159_36, s159_38, s159_41, s159_42, s159_43, s159_45, s159_46, s159_47, s159_50, s159_53, s159_54, s159_57, s159_58, s159_59, s159_62, s159_65, s159_66, s159_69, s159_70, s159_71, s159_74, s159_77, s159_78, s159_81, s159_82, s159_83, am_pu_s, am_pu_n, va_rf_s, va_rf_n, Option.bind_some, true_or, or_true, eq_self, if_true, if_false, ite_self, ite_true, ite_false, ↓reduceIte, reduceCtorEq, Nat.reduceEqDiff, Nat.reduceAdd, Nat.reduceLT, Nat.reduceLeDiff, Nat.reduceMul, Nat.reduceSub, not_true_eq_false, not_false_eq_true, and_self, and_true, true_and, and_false, false_and]
  exact loop (S 1 b 0 - 1) 1 none none (by omega) (by omega)
theorem m160 (h : mRep S σ) (hO : sOK N S) (hb : b < 4) : am_v X (d + 2) 160 [.ref (66 : Nat), .int (nI b)] σ = some (some (.int (bI (sMi (S 0 b) (S 1 b 0)))), σ) := by
  have hF := h.1
  have hN := sO_N hO hb
  have loop : ∀ m k, k + m = S 1 b 0 → am_w X (d + 1) 160 4 [some (.ref (66 : Nat)), some (.int (nI b)), some (.int (bI (∀ i, i < k → S 0 b i = S 0 b (S 1 b 0 - 1 - i)))), some (.int (nI k))] [] σ = some (some (.int (bI (sMi (S 0 b) (S 1 b 0)))), σ) := by
    intro m
    induction m with
    | zero =>
      intro k hk
      have hk : k = S 1 b 0 := by omega
      subst hk
      rw [s160_4]
      simp only [s160_0, s160_1, s160_2, s160_3, s160_5, s160_6, s160_9, s160_10, s160_11, s160_14, s160_15, s160_18, s160_19, s160_20, s160_21, s160_24, s160_25, s160_26, s160_27, s160_30, s160_31, s160_32, s160_33, s160_34, s160_35, s160_36, s160_39, s160_42, s160_43, s160_46, s160_47, s160_48, s160_51, s160_54, am_pu_s, am_pu_n, va_rf_s, va_rf_n, Option.bind_some, true_or, or_true, eq_self, if_true, if_false, ite_self, ite_true, ite_false, ↓reduceIte, reduceCtorEq, Nat.reduceEqDiff, Nat.reduceAdd, Nat.reduceLT, Nat.reduceLeDiff, Nat.reduceMul, Nat.reduceSub, not_true_eq_false, not_false_eq_true, and_self, and_true, true_and, and_false, false_and, hF, kd66, rr66_1, ix68 hF hb, nI_cl (show b < 2147483648 by omega), mR_N h hb, Int32.le_refl]
      exact s160_55 bI_01
    | succ m ih =>
      intro k hk
      have hi6 : k < 60 := by omega
      have hi7 : S 1 b 0 - 1 - k < 60 := by omega
      have h1 : ¬ nI (S 1 b 0) ≤ nI k := nI_ge (by omega) (by omega)
      have b1 := sO_B hO hb hi6
      have b2 := sO_B hO hb hi7
      have e1 : (nI (S 0 b k) = nI (S 0 b (S 1 b 0 - 1 - k))) = (S 0 b k = S 0 b (S 1 b 0 - 1 - k)) := nI_EQ (by omega) (by omega)
      have hh := ih (k + 1) (by omega)
      rw [s160_4]
      by_cases h2 : ∀ i, i < k → S 0 b i = S 0 b (S 1 b 0 - 1 - i)
      · by_cases h3 : S 0 b k = S 0 b (S 1 b 0 - 1 - k)
        · rw [bI_t (show ∀ i, i < k + 1 → S 0 b i = S 0 b (S 1 b 0 - 1 - i) from fun i hi => by
            by_cases h5 : i = k
            · rw [h5]; exact h3
            · exact h2 i (by omega))] at hh
          rw [bI_t h2]
          simp only [s160_0, s160_1, s160_2, s160_3, s160_5, s160_6, s160_9, s160_10, s160_11, s160_14, s160_15, s160_18, s160_19, s160_20, s160_21, s160_24, s160_25, s160_26, s160_27, s160_30, s160_31, s160_32, s160_33, s160_34, s160_35, s160_36, s160_39, s160_42, s160_43, s160_46, s160_47, s160_48, s160_51, s160_54, s160_55, am_pu_s, am_pu_n, va_rf_s, va_rf_n, Option.bind_some, true_or, or_true, eq_self, if_true, if_false, ite_self, ite_true, ite_false, ↓reduceIte, reduceCtorEq, Nat.reduceEqDiff, Nat.reduceAdd, Nat.reduceLT, Nat.reduceLeDiff, Nat.reduceMul, Nat.reduceSub, not_true_eq_false, not_false_eq_true, and_self, and_true, true_and, and_false, false_and, nI_add, nI_10, h1, hF, kd66, rr66_1, ix68 hF hb, nI_cl (show b < 2147483648 by omega), mR_N h hb, pk_sub (show 1 ≤ S 1 b 0 by omega), pk_sub (show k ≤ S 1 b 0 - 1 by omega), m154 h hb hi6, m154 h hb hi7, e1, h3]
          exact hh
        · rw [bI_f (show ¬ ∀ i, i < k + 1 → S 0 b i = S 0 b (S 1 b 0 - 1 - i) from fun q => h3 (q k (by omega)))] at hh
          rw [bI_t h2]
          simp only [s160_0, s160_1, s160_2, s160_3, s160_5, s160_6, s160_9, s160_10, s160_11, s160_14, s160_15, s160_18, s160_19, s160_20, s160_21, s160_24, s160_25, s160_26, s160_27, s160_30, s160_31, s160_32, s160_33, s160_34, s160_35, s160_36, s160_39, s160_42, s160_43, s160_46, s160_47, s160_48, s160_51, s160_54, s160_55, am_pu_s, am_pu_n, va_rf_s, va_rf_n, Option.bind_some, true_or, or_true, eq_self, if_true, if_false, ite_self, ite_true, ite_false, ↓reduceIte, reduceCtorEq, Nat.reduceEqDiff, Nat.reduceAdd, Nat.reduceLT, Nat.reduceLeDiff, Nat.reduceMul, Nat.reduceSub, not_true_eq_false, not_false_eq_true, and_self, and_true, true_and, and_false, false_and, nI_add, nI_10, h1, hF, kd66, rr66_1, ix68 hF hb, nI_cl (show b < 2147483648 by omega), mR_N h hb, pk_sub (show 1 ≤ S 1 b 0 by omega), pk_sub (show k ≤ S 1 b 0 - 1 by omega), m154 h hb hi6, m154 h hb hi7, e1, h3]
          exact hh
      · rw [bI_f (show ¬ ∀ i, i < k + 1 → S 0 b i = S 0 b (S 1 b 0 - 1 - i) from fun q => h2 fun i hi => q i (by omega))] at hh
        rw [bI_f h2]
        simp only [s160_0, s160_1, s160_2, s160_3, s160_5, s160_6, s160_9, s160_10, s160_11, s160_14, s160_15, s160_18, s160_19, s160_20, s160_21, s160_24, s160_25, s160_26, s160_27, s160_30, s160_31, s160_32, s160_33, s160_34, s160_35, s160_36, s160_39, s160_42, s160_43, s160_46, s160_47, s160_48, s160_51, s160_54, s160_55, am_pu_s, am_pu_n, va_rf_s, va_rf_n, Option.bind_some, true_or, or_true, eq_self, if_true, if_false, ite_self, ite_true, ite_false, ↓reduceIte, reduceCtorEq, Nat.reduceEqDiff, Nat.reduceAdd, Nat.reduceLT, Nat.reduceLeDiff, Nat.reduceMul, Nat.reduceSub, not_true_eq_false, not_false_eq_true, and_self, and_true, true_and, and_false, false_and, nI_add, nI_10, h1, hF, kd66, rr66_1, ix68 hF hb, nI_cl (show b < 2147483648 by omega), mR_N h hb]
        exact hh
  have hh := loop (S 1 b 0) 0 (by omega)
  rw [bI_t (show ∀ i, i < 0 → S 0 b i = S 0 b (S 1 b 0 - 1 - i) from fun i hi => absurd hi (by omega))] at hh
  rw [s160]
  simp only [s160_0, s160_1, s160_2, s160_3, s160_5, s160_6, s160_9, s160_10, s160_11, s160_14, s160_15, s160_18, s160_19, s160_20, s160_21, s160_24, s160_25, s160_26, s160_27, s160_30, s160_31, s160_32, s160_33, s160_34, s160_35, s160_36, s160_39, s160_42, s160_43, s160_46, s160_47, s160_48, s160_51, s160_54, s160_55, am_pu_s, am_pu_n, va_rf_s, va_rf_n, Option.bind_some, true_or, or_true, eq_self, if_true, if_false, ite_self, ite_true, ite_false, ↓reduceIte, reduceCtorEq, Nat.reduceEqDiff, Nat.reduceAdd, Nat.reduceLT, Nat.reduceLeDiff, Nat.reduceMul, Nat.reduceSub, not_true_eq_false, not_false_eq_true, and_self, and_true, true_and, and_false, false_and]
  exact hh
/-! tune, beat -/
def rTune (S : am_St) (v w : Int32) : Int32 := match tI S v with
  | none => -101
  | some b => if w < nI 0 ∨ nI 9 ≤ w then -102 else match w.toNatClampNeg with
    | 0 => nI (S 1 b 0)
    | 1 => nI (sSum (fun j => sBits (S 0 b j)) (S 1 b 0))
    | 2 => nI (sSum (fun j => if 0 ≤ sBits (S 0 b j) ∧ sBits (S 0 b j) ≤ 0 then 1 else 0) (S 1 b 0))
    | 3 => nI (sSum (fun j => if 2 ≤ sBits (S 0 b j) ∧ sBits (S 0 b j) ≤ 7 then 1 else 0) (S 1 b 0))
    | 4 => wM (sMax (fun j => sHh (S 0 b j)) (S 1 b 0))
    | 5 => nI (sPer (S 0 b) (S 1 b 0) 1 (S 1 b 0 - 1))
    | 6 => bI (sMi (S 0 b) (S 1 b 0))
    | 7 => nI (S 2 b 0)
    | _ => nI (sPs S b 0)
theorem pk_n (w : Int32) (n : Nat) (hn : n < 2 ^ 31) : (w < nI 0 ∨ nI n ≤ w) ∨ ∃ j, j < n ∧ w = nI j := by
  rcases pk_ix w hn with h1 | h1 | ⟨j, hj, rfl⟩
  · exact Or.inl (Or.inl h1)
  · exact Or.inl (Or.inr h1)
  · exact Or.inr ⟨j, hj, rfl⟩
theorem pk_nN {j n : Nat} (hj : j < n) (hn : n < 2 ^ 31) : ¬ (nI j < nI 0 ∨ nI n ≤ nI j) := by
  intro q; rcases q with q | q
  · exact nI_pos (by omega) q
  · exact nI_ge hj (by omega) q
theorem pk_ne {w : Int32} {j n : Nat} (h : w < nI 0 ∨ nI n ≤ w) (hj : j < n) (hn : n < 2 ^ 31) : (w = nI j) = False := by
  apply propext
  constructor
  · intro e
    rw [e] at h
    exact pk_nN hj hn h
  · exact False.elim
variable {v w : Int32}
theorem c93 (h : cRep S σ) (hO : sOK N S) : ∃ σ', am_v X (d + 7) 93 [.ref (0 : Nat), .int v, .int w] σ = some (some (.int (rTune S v w)), σ') ∧ am_pr nsA σ σ' := by
  have hF := h.1
  unfold rTune
  rcases tI_c S v with ⟨b, hb, rfl, h0, e⟩ | e
  · rw [e]
    dsimp only
    have hN := sO_N hO hb
    have hB : ∀ j, j < 60 → S 0 b j < 128 := fun j hj => sO_B hO hb hj
    have hT := cR_T h hb
    have h76 : ∀ d, am_v X (d + 1) 76 [.ref (8 : Nat), .int (nI b)] σ = some (some (.ref (15 + 3 * b)), σ) := fun d => m76s h hO hb h0
    rcases pk_n w 9 (by decide) with h1 | ⟨j, hj, rfl⟩
    · refine ⟨σ, ?_, am_pr.rf hF⟩
      rw [if_pos h1, s93]
      simp only [s93_0, s93_1, s93_4, s93_5, s93_8, s93_8n, s93_9, s93_9n, s93_10n, s93_10, s93_13, s93_15, s93_16, s93_17, s93_68, s93_68n, s93_69, s93_72, s93_73, s93_73n, s93_74, s93_77, s93_78, s93_78n, s93_79, s93_80, s93_81, s93_84, s93_85, s93_85n, s93_86, s93_87, s93_89, s93_92, s93_93, s93_93n, s93_94, s93_97, s93_98, s93_98n, s93_99, s93_102, s93_103, s93_103n, s93_104, s93_107, s93_110, s93_111, s93_114, s93_115, s93_116, s93_116n, s93_117, s93_120, s93_121, s93_122, s93_122n, s93_123, s93_124, s93_127, s93_128, s93_130, am_pu_s, am_pu_n, va_rf_s, va_rf_n, Option.bind_some, true_or, or_true, eq_self, if_true, if_false, ite_self, ite_true, ite_false, ↓reduceIte, reduceCtorEq, Nat.reduceEqDiff, Nat.reduceAdd, Nat.reduceLT, Nat.reduceLeDiff, Nat.reduceMul, Nat.reduceSub, not_true_eq_false, not_false_eq_true, and_self, and_true, true_and, and_false, false_and, hF, kd0, rr0_2, kd8, h76, pk_ne h1 (show 0 < 9 by decide) (by decide), pk_ne h1 (show 1 < 9 by decide) (by decide), pk_ne h1 (show 2 < 9 by decide) (by decide), pk_ne h1 (show 3 < 9 by decide) (by decide), pk_ne h1 (show 4 < 9 by decide) (by decide), pk_ne h1 (show 5 < 9 by decide) (by decide), pk_ne h1 (show 6 < 9 by decide) (by decide), pk_ne h1 (show 7 < 9 by decide) (by decide), pk_ne h1 (show 8 < 9 by decide) (by decide)]
    · rw [if_neg (pk_nN hj (by decide)), nI_cl (show j < 2147483648 by omega), s93]
      have hj9 : j = 0 ∨ j = 1 ∨ j = 2 ∨ j = 3 ∨ j = 4 ∨ j = 5 ∨ j = 6 ∨ j = 7 ∨ j = 8 := by omega
      rcases hj9 with rfl | rfl | rfl | rfl | rfl | rfl | rfl | rfl | rfl
      · refine ⟨σ, ?_, am_pr.rf hF⟩
        simp only [s93_0, s93_1, s93_4, s93_5, s93_8, s93_8n, s93_9, s93_9n, s93_10n, s93_10, s93_13, s93_15, s93_16, s93_17, s93_68, s93_68n, s93_69, s93_72, s93_73, s93_73n, s93_74, s93_77, s93_78, s93_78n, s93_79, s93_80, s93_81, s93_84, s93_85, s93_85n, s93_86, s93_87, s93_89, s93_92, s93_93, s93_93n, s93_94, s93_97, s93_98, s93_98n, s93_99, s93_102, s93_103, s93_103n, s93_104, s93_107, s93_110, s93_111, s93_114, s93_115, s93_116, s93_116n, s93_117, s93_120, s93_121, s93_122, s93_122n, s93_123, s93_124, s93_127, s93_128, s93_130, am_pu_s, am_pu_n, va_rf_s, va_rf_n, Option.bind_some, true_or, or_true, eq_self, if_true, if_false, ite_self, ite_true, ite_false, ↓reduceIte, reduceCtorEq, Nat.reduceEqDiff, Nat.reduceAdd, Nat.reduceLT, Nat.reduceLeDiff, Nat.reduceMul, Nat.reduceSub, not_true_eq_false, not_false_eq_true, and_self, and_true, true_and, and_false, false_and, hF, kd0, rr0_2, kd8, h76, kdT hF (isTu8 hb), nI_EQ, cR_N h hb]
      · refine ⟨σ, ?_, am_pr.rf hF⟩
        simp only [s93_0, s93_1, s93_4, s93_5, s93_8, s93_8n, s93_9, s93_9n, s93_10n, s93_10, s93_13, s93_15, s93_16, s93_17, s93_68, s93_68n, s93_69, s93_72, s93_73, s93_73n, s93_74, s93_77, s93_78, s93_78n, s93_79, s93_80, s93_81, s93_84, s93_85, s93_85n, s93_86, s93_87, s93_89, s93_92, s93_93, s93_93n, s93_94, s93_97, s93_98, s93_98n, s93_99, s93_102, s93_103, s93_103n, s93_104, s93_107, s93_110, s93_111, s93_114, s93_115, s93_116, s93_116n, s93_117, s93_120, s93_121, s93_122, s93_122n, s93_123, s93_124, s93_127, s93_128, s93_130, am_pu_s, am_pu_n, va_rf_s, va_rf_n, Option.bind_some, true_or, or_true, eq_self, if_true, if_false, ite_self, ite_true, ite_false, ↓reduceIte, reduceCtorEq, Nat.reduceEqDiff, Nat.reduceAdd, Nat.reduceLT, Nat.reduceLeDiff, Nat.reduceMul, Nat.reduceSub, not_true_eq_false, not_false_eq_true, and_self, and_true, true_and, and_false, false_and, hF, kd0, rr0_2, kd8, h76, kdT hF (isTu8 hb), nI_EQ, m55 hF (isTu8 hb) hT hN hB]
      · refine ⟨σ, ?_, am_pr.rf hF⟩
        simp only [s93_0, s93_1, s93_4, s93_5, s93_8, s93_8n, s93_9, s93_9n, s93_10n, s93_10, s93_13, s93_15, s93_16, s93_17, s93_68, s93_68n, s93_69, s93_72, s93_73, s93_73n, s93_74, s93_77, s93_78, s93_78n, s93_79, s93_80, s93_81, s93_84, s93_85, s93_85n, s93_86, s93_87, s93_89, s93_92, s93_93, s93_93n, s93_94, s93_97, s93_98, s93_98n, s93_99, s93_102, s93_103, s93_103n, s93_104, s93_107, s93_110, s93_111, s93_114, s93_115, s93_116, s93_116n, s93_117, s93_120, s93_121, s93_122, s93_122n, s93_123, s93_124, s93_127, s93_128, s93_130, am_pu_s, am_pu_n, va_rf_s, va_rf_n, Option.bind_some, true_or, or_true, eq_self, if_true, if_false, ite_self, ite_true, ite_false, ↓reduceIte, reduceCtorEq, Nat.reduceEqDiff, Nat.reduceAdd, Nat.reduceLT, Nat.reduceLeDiff, Nat.reduceMul, Nat.reduceSub, not_true_eq_false, not_false_eq_true, and_self, and_true, true_and, and_false, false_and, hF, kd0, rr0_2, kd8, h76, kdT hF (isTu8 hb), nI_EQ, m56 hF (isTu8 hb) hT hN hB (show 0 < 100 by decide) (show 0 < 100 by decide)]
      · refine ⟨σ, ?_, am_pr.rf hF⟩
        simp only [s93_0, s93_1, s93_4, s93_5, s93_8, s93_8n, s93_9, s93_9n, s93_10n, s93_10, s93_13, s93_15, s93_16, s93_17, s93_68, s93_68n, s93_69, s93_72, s93_73, s93_73n, s93_74, s93_77, s93_78, s93_78n, s93_79, s93_80, s93_81, s93_84, s93_85, s93_85n, s93_86, s93_87, s93_89, s93_92, s93_93, s93_93n, s93_94, s93_97, s93_98, s93_98n, s93_99, s93_102, s93_103, s93_103n, s93_104, s93_107, s93_110, s93_111, s93_114, s93_115, s93_116, s93_116n, s93_117, s93_120, s93_121, s93_122, s93_122n, s93_123, s93_124, s93_127, s93_128, s93_130, am_pu_s, am_pu_n, va_rf_s, va_rf_n, Option.bind_some, true_or, or_true, eq_self, if_true, if_false, ite_self, ite_true, ite_false, ↓reduceIte, reduceCtorEq, Nat.reduceEqDiff, Nat.reduceAdd, Nat.reduceLT, Nat.reduceLeDiff, Nat.reduceMul, Nat.reduceSub, not_true_eq_false, not_false_eq_true, and_self, and_true, true_and, and_false, false_and, hF, kd0, rr0_2, kd8, h76, kdT hF (isTu8 hb), nI_EQ, m56 hF (isTu8 hb) hT hN hB (show 2 < 100 by decide) (show 7 < 100 by decide)]
      · refine ⟨σ, ?_, am_pr.rf hF⟩
        simp only [s93_0, s93_1, s93_4, s93_5, s93_8, s93_8n, s93_9, s93_9n, s93_10n, s93_10, s93_13, s93_15, s93_16, s93_17, s93_68, s93_68n, s93_69, s93_72, s93_73, s93_73n, s93_74, s93_77, s93_78, s93_78n, s93_79, s93_80, s93_81, s93_84, s93_85, s93_85n, s93_86, s93_87, s93_89, s93_92, s93_93, s93_93n, s93_94, s93_97, s93_98, s93_98n, s93_99, s93_102, s93_103, s93_103n, s93_104, s93_107, s93_110, s93_111, s93_114, s93_115, s93_116, s93_116n, s93_117, s93_120, s93_121, s93_122, s93_122n, s93_123, s93_124, s93_127, s93_128, s93_130, am_pu_s, am_pu_n, va_rf_s, va_rf_n, Option.bind_some, true_or, or_true, eq_self, if_true, if_false, ite_self, ite_true, ite_false, ↓reduceIte, reduceCtorEq, Nat.reduceEqDiff, Nat.reduceAdd, Nat.reduceLT, Nat.reduceLeDiff, Nat.reduceMul, Nat.reduceSub, not_true_eq_false, not_false_eq_true, and_self, and_true, true_and, and_false, false_and, hF, kd0, rr0_2, kd8, h76, kdT hF (isTu8 hb), nI_EQ, m57 hF (isTu8 hb) hT hN hB]
      · refine ⟨σ, ?_, am_pr.rf hF⟩
        simp only [s93_0, s93_1, s93_4, s93_5, s93_8, s93_8n, s93_9, s93_9n, s93_10n, s93_10, s93_13, s93_15, s93_16, s93_17, s93_68, s93_68n, s93_69, s93_72, s93_73, s93_73n, s93_74, s93_77, s93_78, s93_78n, s93_79, s93_80, s93_81, s93_84, s93_85, s93_85n, s93_86, s93_87, s93_89, s93_92, s93_93, s93_93n, s93_94, s93_97, s93_98, s93_98n, s93_99, s93_102, s93_103, s93_103n, s93_104, s93_107, s93_110, s93_111, s93_114, s93_115, s93_116, s93_116n, s93_117, s93_120, s93_121, s93_122, s93_122n, s93_123, s93_124, s93_127, s93_128, s93_130, am_pu_s, am_pu_n, va_rf_s, va_rf_n, Option.bind_some, true_or, or_true, eq_self, if_true, if_false, ite_self, ite_true, ite_false, ↓reduceIte, reduceCtorEq, Nat.reduceEqDiff, Nat.reduceAdd, Nat.reduceLT, Nat.reduceLeDiff, Nat.reduceMul, Nat.reduceSub, not_true_eq_false, not_false_eq_true, and_self, and_true, true_and, and_false, false_and, hF, kd0, rr0_2, kd8, h76, kdT hF (isTu8 hb), nI_EQ, m58 hF (isTu8 hb) hT hN h0 hB]
      · refine ⟨σ, ?_, am_pr.rf hF⟩
        have m := m60 (X := X) (d := d + 5) hF (isTu8 hb) hT hN h0 hB
        by_cases h2 : sMi (S 0 b) (S 1 b 0)
        · rw [bI_t h2] at m ⊢
          simp only [s93_0, s93_1, s93_4, s93_5, s93_8, s93_8n, s93_9, s93_9n, s93_10n, s93_10, s93_13, s93_15, s93_16, s93_17, s93_68, s93_68n, s93_69, s93_72, s93_73, s93_73n, s93_74, s93_77, s93_78, s93_78n, s93_79, s93_80, s93_81, s93_84, s93_85, s93_85n, s93_86, s93_87, s93_89, s93_92, s93_93, s93_93n, s93_94, s93_97, s93_98, s93_98n, s93_99, s93_102, s93_103, s93_103n, s93_104, s93_107, s93_110, s93_111, s93_114, s93_115, s93_116, s93_116n, s93_117, s93_120, s93_121, s93_122, s93_122n, s93_123, s93_124, s93_127, s93_128, s93_130, am_pu_s, am_pu_n, va_rf_s, va_rf_n, Option.bind_some, true_or, or_true, eq_self, if_true, if_false, ite_self, ite_true, ite_false, ↓reduceIte, reduceCtorEq, Nat.reduceEqDiff, Nat.reduceAdd, Nat.reduceLT, Nat.reduceLeDiff, Nat.reduceMul, Nat.reduceSub, not_true_eq_false, not_false_eq_true, and_self, and_true, true_and, and_false, false_and, hF, kd0, rr0_2, kd8, h76, kdT hF (isTu8 hb), nI_EQ, m]
        · rw [bI_f h2] at m ⊢
          simp only [s93_0, s93_1, s93_4, s93_5, s93_8, s93_8n, s93_9, s93_9n, s93_10n, s93_10, s93_13, s93_15, s93_16, s93_17, s93_68, s93_68n, s93_69, s93_72, s93_73, s93_73n, s93_74, s93_77, s93_78, s93_78n, s93_79, s93_80, s93_81, s93_84, s93_85, s93_85n, s93_86, s93_87, s93_89, s93_92, s93_93, s93_93n, s93_94, s93_97, s93_98, s93_98n, s93_99, s93_102, s93_103, s93_103n, s93_104, s93_107, s93_110, s93_111, s93_114, s93_115, s93_116, s93_116n, s93_117, s93_120, s93_121, s93_122, s93_122n, s93_123, s93_124, s93_127, s93_128, s93_130, am_pu_s, am_pu_n, va_rf_s, va_rf_n, Option.bind_some, true_or, or_true, eq_self, if_true, if_false, ite_self, ite_true, ite_false, ↓reduceIte, reduceCtorEq, Nat.reduceEqDiff, Nat.reduceAdd, Nat.reduceLT, Nat.reduceLeDiff, Nat.reduceMul, Nat.reduceSub, not_true_eq_false, not_false_eq_true, and_self, and_true, true_and, and_false, false_and, hF, kd0, rr0_2, kd8, h76, kdT hF (isTu8 hb), nI_EQ, m]
      · refine ⟨σ, ?_, am_pr.rf hF⟩
        simp only [s93_0, s93_1, s93_4, s93_5, s93_8, s93_8n, s93_9, s93_9n, s93_10n, s93_10, s93_13, s93_15, s93_16, s93_17, s93_68, s93_68n, s93_69, s93_72, s93_73, s93_73n, s93_74, s93_77, s93_78, s93_78n, s93_79, s93_80, s93_81, s93_84, s93_85, s93_85n, s93_86, s93_87, s93_89, s93_92, s93_93, s93_93n, s93_94, s93_97, s93_98, s93_98n, s93_99, s93_102, s93_103, s93_103n, s93_104, s93_107, s93_110, s93_111, s93_114, s93_115, s93_116, s93_116n, s93_117, s93_120, s93_121, s93_122, s93_122n, s93_123, s93_124, s93_127, s93_128, s93_130, am_pu_s, am_pu_n, va_rf_s, va_rf_n, Option.bind_some, true_or, or_true, eq_self, if_true, if_false, ite_self, ite_true, ite_false, ↓reduceIte, reduceCtorEq, Nat.reduceEqDiff, Nat.reduceAdd, Nat.reduceLT, Nat.reduceLeDiff, Nat.reduceMul, Nat.reduceSub, not_true_eq_false, not_false_eq_true, and_self, and_true, true_and, and_false, false_and, hF, kd0, rr0_2, kd8, h76, kdT hF (isTu8 hb), nI_EQ, cR_D h hb h0]
      · obtain ⟨σ2, e2, hp2⟩ := m117 (X := X) (d := d) h hO hb (show 0 < 50 by omega)
        refine ⟨σ2, ?_, hp2⟩
        simp only [s93_0, s93_1, s93_4, s93_5, s93_8, s93_8n, s93_9, s93_9n, s93_10n, s93_10, s93_13, s93_15, s93_16, s93_17, s93_68, s93_68n, s93_69, s93_72, s93_73, s93_73n, s93_74, s93_77, s93_78, s93_78n, s93_79, s93_80, s93_81, s93_84, s93_85, s93_85n, s93_86, s93_87, s93_89, s93_92, s93_93, s93_93n, s93_94, s93_97, s93_98, s93_98n, s93_99, s93_102, s93_103, s93_103n, s93_104, s93_107, s93_110, s93_111, s93_114, s93_115, s93_116, s93_116n, s93_117, s93_120, s93_121, s93_122, s93_122n, s93_123, s93_124, s93_127, s93_128, s93_130, am_pu_s, am_pu_n, va_rf_s, va_rf_n, Option.bind_some, true_or, or_true, eq_self, if_true, if_false, ite_self, ite_true, ite_false, ↓reduceIte, reduceCtorEq, Nat.reduceEqDiff, Nat.reduceAdd, Nat.reduceLT, Nat.reduceLeDiff, Nat.reduceMul, Nat.reduceSub, not_true_eq_false, not_false_eq_true, and_self, and_true, true_and, and_false, false_and, hF, kd0, rr0_2, kd8, h76, kdT hF (isTu8 hb), nI_EQ, e2]
  · refine ⟨σ, ?_, am_pr.rf hF⟩
    rw [s93]
    simp only [s93_0, s93_1, s93_4, s93_5, s93_8, s93_8n, s93_9, s93_9n, s93_10n, s93_10, s93_13, s93_15, s93_16, s93_17, s93_68, s93_68n, s93_69, s93_72, s93_73, s93_73n, s93_74, s93_77, s93_78, s93_78n, s93_79, s93_80, s93_81, s93_84, s93_85, s93_85n, s93_86, s93_87, s93_89, s93_92, s93_93, s93_93n, s93_94, s93_97, s93_98, s93_98n, s93_99, s93_102, s93_103, s93_103n, s93_104, s93_107, s93_110, s93_111, s93_114, s93_115, s93_116, s93_116n, s93_117, s93_120, s93_121, s93_122, s93_122n, s93_123, s93_124, s93_127, s93_128, s93_130, am_pu_s, am_pu_n, va_rf_s, va_rf_n, Option.bind_some, true_or, or_true, eq_self, if_true, if_false, ite_self, ite_true, ite_false, ↓reduceIte, reduceCtorEq, Nat.reduceEqDiff, Nat.reduceAdd, Nat.reduceLT, Nat.reduceLeDiff, Nat.reduceMul, Nat.reduceSub, not_true_eq_false, not_false_eq_true, and_self, and_true, true_and, and_false, false_and, hF, kd0, rr0_2, kd8, m76n h e, e]
theorem wth9 {w : Int32} : (w < nI 0 ∨ nI 9 ≤ w) ↔ ¬ (nI 0 ≤ w ∧ w ≤ nI 8) := by
  rw [wthin (by decide) rfl]
  have h := nI_lt_s (k := 8) (by decide) w
  constructor
  · intro q q2
    apply q2
    rcases q with q | q
    · exact Or.inl q
    · by_cases h3 : nI 8 < w
      · exact Or.inr h3
      · exact absurd (h.mpr h3) (Int32.not_lt.mpr q)
  · intro q
    by_cases h2 : w < nI 0
    · exact Or.inl h2
    · by_cases h3 : nI 9 ≤ w
      · exact Or.inr h3
      · exact absurd (fun q3 => by
          rcases q3 with q3 | q3
          · exact h2 q3
          · exact h.mp (Int32.not_le.mp h3) q3) q
theorem c163 (h : mRep S σ) (hO : sOK N S) : ∃ σ', am_v X (d + 8) 163 [.ref (66 : Nat), .int v, .int w] σ = some (some (.int (rTune S v w)), σ') ∧ am_pr nsA σ σ' := by
  have hF := h.1
  unfold rTune
  rcases tI_c S v with ⟨b, hb, rfl, h0, e⟩ | e
  · rw [e]
    dsimp only
    have h152 : ∀ d, am_v X (d + 2) 152 [.ref (66 : Nat), .int (nI b)] σ = some (some (.int (nI 1)), σ) := fun d => m152s h hO hb h0
    rcases pk_n w 9 (by decide) with h1 | ⟨j, hj, rfl⟩
    · refine ⟨σ, ?_, am_pr.rf hF⟩
      rw [if_pos h1, s163]
      simp only [s163_0, s163_1, s163_2, s163_5, s163_8, s163_10, s163_13, s163_14, s163_15, s163_17, s163_20, s163_23, s163_24, s163_25, s163_26, s163_29, s163_32, s163_34, am_pu_s, am_pu_n, va_rf_s, va_rf_n, Option.bind_some, true_or, or_true, eq_self, if_true, if_false, ite_self, ite_true, ite_false, ↓reduceIte, reduceCtorEq, Nat.reduceEqDiff, Nat.reduceAdd, Nat.reduceLT, Nat.reduceLeDiff, Nat.reduceMul, Nat.reduceSub, not_true_eq_false, not_false_eq_true, and_self, and_true, true_and, and_false, false_and, hF, kd66, h152, nI_10, m124, bI_f (wth9.mp h1)]
    · have hb' : nI 0 ≤ nI j ∧ nI j ≤ nI 8 := ⟨nI_le (by omega) (by omega), nI_le (by omega) (by decide)⟩
      rw [if_neg (pk_nN hj (by decide)), nI_cl (show j < 2147483648 by omega)]
      have main : ∀ r, (∃ σ', am_v X (d + 7) 162 [.ref (66 : Nat), .int (nI b), .int (nI j)] σ = some (some (.int r), σ') ∧ am_pr nsA σ σ') → ∃ σ', am_v X (d + 8) 163 [.ref (66 : Nat), .int (nI b), .int (nI j)] σ = some (some (.int r), σ') ∧ am_pr nsA σ σ' := by
        rintro r ⟨σ', e2, hp2⟩
        refine ⟨σ', ?_, hp2⟩
        rw [s163]
        simp only [s163_0, s163_1, s163_2, s163_5, s163_8, s163_10, s163_13, s163_14, s163_15, s163_17, s163_20, s163_23, s163_24, s163_25, s163_26, s163_29, s163_32, s163_34, am_pu_s, am_pu_n, va_rf_s, va_rf_n, Option.bind_some, true_or, or_true, eq_self, if_true, if_false, ite_self, ite_true, ite_false, ↓reduceIte, reduceCtorEq, Nat.reduceEqDiff, Nat.reduceAdd, Nat.reduceLT, Nat.reduceLeDiff, Nat.reduceMul, Nat.reduceSub, not_true_eq_false, not_false_eq_true, and_self, and_true, true_and, and_false, false_and, hF, kd66, h152, nI_10, m124, bI_t hb', e2]
      apply main
      rw [s162]
      have hj9 : j = 0 ∨ j = 1 ∨ j = 2 ∨ j = 3 ∨ j = 4 ∨ j = 5 ∨ j = 6 ∨ j = 7 ∨ j = 8 := by omega
      rcases hj9 with rfl | rfl | rfl | rfl | rfl | rfl | rfl | rfl | rfl
      · refine ⟨σ, ?_, am_pr.rf hF⟩
        simp only [s162_0, s162_1, s162_48, s162_49, s162_52, s162_53, s162_54, s162_55, s162_56, s162_57, s162_60, s162_61, s162_62, s162_63, s162_66, s162_67, s162_68, s162_69, s162_72, s162_73, s162_74, s162_75, s162_78, s162_79, s162_80, s162_81, s162_84, s162_85, s162_86, s162_87, s162_90, s162_93, s162_94, s162_97, s162_98, s162_99, s162_100, s162_103, s162_104, s162_105, s162_106, s162_107, s162_108, s162_109, s162_112, am_pu_s, am_pu_n, va_rf_s, va_rf_n, Option.bind_some, true_or, or_true, eq_self, if_true, if_false, ite_self, ite_true, ite_false, ↓reduceIte, reduceCtorEq, Nat.reduceEqDiff, Nat.reduceAdd, Nat.reduceLT, Nat.reduceLeDiff, Nat.reduceMul, Nat.reduceSub, not_true_eq_false, not_false_eq_true, and_self, and_true, true_and, and_false, false_and, hF, kd66, rr66_1, ix68 hF hb, nI_cl (show b < 2147483648 by omega), mR_N h hb, nI_EQ]
      · refine ⟨σ, ?_, am_pr.rf hF⟩
        simp only [s162_0, s162_1, s162_48, s162_49, s162_52, s162_53, s162_54, s162_55, s162_56, s162_57, s162_60, s162_61, s162_62, s162_63, s162_66, s162_67, s162_68, s162_69, s162_72, s162_73, s162_74, s162_75, s162_78, s162_79, s162_80, s162_81, s162_84, s162_85, s162_86, s162_87, s162_90, s162_93, s162_94, s162_97, s162_98, s162_99, s162_100, s162_103, s162_104, s162_105, s162_106, s162_107, s162_108, s162_109, s162_112, am_pu_s, am_pu_n, va_rf_s, va_rf_n, Option.bind_some, true_or, or_true, eq_self, if_true, if_false, ite_self, ite_true, ite_false, ↓reduceIte, reduceCtorEq, Nat.reduceEqDiff, Nat.reduceAdd, Nat.reduceLT, Nat.reduceLeDiff, Nat.reduceMul, Nat.reduceSub, not_true_eq_false, not_false_eq_true, and_self, and_true, true_and, and_false, false_and, hF, kd66, nI_EQ, m155 h hO hb]
      · refine ⟨σ, ?_, am_pr.rf hF⟩
        simp only [s162_0, s162_1, s162_48, s162_49, s162_52, s162_53, s162_54, s162_55, s162_56, s162_57, s162_60, s162_61, s162_62, s162_63, s162_66, s162_67, s162_68, s162_69, s162_72, s162_73, s162_74, s162_75, s162_78, s162_79, s162_80, s162_81, s162_84, s162_85, s162_86, s162_87, s162_90, s162_93, s162_94, s162_97, s162_98, s162_99, s162_100, s162_103, s162_104, s162_105, s162_106, s162_107, s162_108, s162_109, s162_112, am_pu_s, am_pu_n, va_rf_s, va_rf_n, Option.bind_some, true_or, or_true, eq_self, if_true, if_false, ite_self, ite_true, ite_false, ↓reduceIte, reduceCtorEq, Nat.reduceEqDiff, Nat.reduceAdd, Nat.reduceLT, Nat.reduceLeDiff, Nat.reduceMul, Nat.reduceSub, not_true_eq_false, not_false_eq_true, and_self, and_true, true_and, and_false, false_and, hF, kd66, nI_EQ, m156 h hO hb]
      · refine ⟨σ, ?_, am_pr.rf hF⟩
        simp only [s162_0, s162_1, s162_48, s162_49, s162_52, s162_53, s162_54, s162_55, s162_56, s162_57, s162_60, s162_61, s162_62, s162_63, s162_66, s162_67, s162_68, s162_69, s162_72, s162_73, s162_74, s162_75, s162_78, s162_79, s162_80, s162_81, s162_84, s162_85, s162_86, s162_87, s162_90, s162_93, s162_94, s162_97, s162_98, s162_99, s162_100, s162_103, s162_104, s162_105, s162_106, s162_107, s162_108, s162_109, s162_112, am_pu_s, am_pu_n, va_rf_s, va_rf_n, Option.bind_some, true_or, or_true, eq_self, if_true, if_false, ite_self, ite_true, ite_false, ↓reduceIte, reduceCtorEq, Nat.reduceEqDiff, Nat.reduceAdd, Nat.reduceLT, Nat.reduceLeDiff, Nat.reduceMul, Nat.reduceSub, not_true_eq_false, not_false_eq_true, and_self, and_true, true_and, and_false, false_and, hF, kd66, nI_EQ, m157 h hO hb]
      · refine ⟨σ, ?_, am_pr.rf hF⟩
        simp only [s162_0, s162_1, s162_48, s162_49, s162_52, s162_53, s162_54, s162_55, s162_56, s162_57, s162_60, s162_61, s162_62, s162_63, s162_66, s162_67, s162_68, s162_69, s162_72, s162_73, s162_74, s162_75, s162_78, s162_79, s162_80, s162_81, s162_84, s162_85, s162_86, s162_87, s162_90, s162_93, s162_94, s162_97, s162_98, s162_99, s162_100, s162_103, s162_104, s162_105, s162_106, s162_107, s162_108, s162_109, s162_112, am_pu_s, am_pu_n, va_rf_s, va_rf_n, Option.bind_some, true_or, or_true, eq_self, if_true, if_false, ite_self, ite_true, ite_false, ↓reduceIte, reduceCtorEq, Nat.reduceEqDiff, Nat.reduceAdd, Nat.reduceLT, Nat.reduceLeDiff, Nat.reduceMul, Nat.reduceSub, not_true_eq_false, not_false_eq_true, and_self, and_true, true_and, and_false, false_and, hF, kd66, nI_EQ, m158 h hO hb]
      · refine ⟨σ, ?_, am_pr.rf hF⟩
        simp only [s162_0, s162_1, s162_48, s162_49, s162_52, s162_53, s162_54, s162_55, s162_56, s162_57, s162_60, s162_61, s162_62, s162_63, s162_66, s162_67, s162_68, s162_69, s162_72, s162_73, s162_74, s162_75, s162_78, s162_79, s162_80, s162_81, s162_84, s162_85, s162_86, s162_87, s162_90, s162_93, s162_94, s162_97, s162_98, s162_99, s162_100, s162_103, s162_104, s162_105, s162_106, s162_107, s162_108, s162_109, s162_112, am_pu_s, am_pu_n, va_rf_s, va_rf_n, Option.bind_some, true_or, or_true, eq_self, if_true, if_false, ite_self, ite_true, ite_false, ↓reduceIte, reduceCtorEq, Nat.reduceEqDiff, Nat.reduceAdd, Nat.reduceLT, Nat.reduceLeDiff, Nat.reduceMul, Nat.reduceSub, not_true_eq_false, not_false_eq_true, and_self, and_true, true_and, and_false, false_and, hF, kd66, nI_EQ, m159 h hO hb h0]
      · refine ⟨σ, ?_, am_pr.rf hF⟩
        have m := m160 (X := X) (d := d + 4) h hO hb
        by_cases h2 : sMi (S 0 b) (S 1 b 0)
        · rw [bI_t h2] at m ⊢
          simp only [s162_0, s162_1, s162_48, s162_49, s162_52, s162_53, s162_54, s162_55, s162_56, s162_57, s162_60, s162_61, s162_62, s162_63, s162_66, s162_67, s162_68, s162_69, s162_72, s162_73, s162_74, s162_75, s162_78, s162_79, s162_80, s162_81, s162_84, s162_85, s162_86, s162_87, s162_90, s162_93, s162_94, s162_97, s162_98, s162_99, s162_100, s162_103, s162_104, s162_105, s162_106, s162_107, s162_108, s162_109, s162_112, am_pu_s, am_pu_n, va_rf_s, va_rf_n, Option.bind_some, true_or, or_true, eq_self, if_true, if_false, ite_self, ite_true, ite_false, ↓reduceIte, reduceCtorEq, Nat.reduceEqDiff, Nat.reduceAdd, Nat.reduceLT, Nat.reduceLeDiff, Nat.reduceMul, Nat.reduceSub, not_true_eq_false, not_false_eq_true, and_self, and_true, true_and, and_false, false_and, hF, kd66, nI_EQ, m]
        · rw [bI_f h2] at m ⊢
          simp only [s162_0, s162_1, s162_48, s162_49, s162_52, s162_53, s162_54, s162_55, s162_56, s162_57, s162_60, s162_61, s162_62, s162_63, s162_66, s162_67, s162_68, s162_69, s162_72, s162_73, s162_74, s162_75, s162_78, s162_79, s162_80, s162_81, s162_84, s162_85, s162_86, s162_87, s162_90, s162_93, s162_94, s162_97, s162_98, s162_99, s162_100, s162_103, s162_104, s162_105, s162_106, s162_107, s162_108, s162_109, s162_112, am_pu_s, am_pu_n, va_rf_s, va_rf_n, Option.bind_some, true_or, or_true, eq_self, if_true, if_false, ite_self, ite_true, ite_false, ↓reduceIte, reduceCtorEq, Nat.reduceEqDiff, Nat.reduceAdd, Nat.reduceLT, Nat.reduceLeDiff, Nat.reduceMul, Nat.reduceSub, not_true_eq_false, not_false_eq_true, and_self, and_true, true_and, and_false, false_and, hF, kd66, nI_EQ, m]
      · refine ⟨σ, ?_, am_pr.rf hF⟩
        simp only [s162_0, s162_1, s162_48, s162_49, s162_52, s162_53, s162_54, s162_55, s162_56, s162_57, s162_60, s162_61, s162_62, s162_63, s162_66, s162_67, s162_68, s162_69, s162_72, s162_73, s162_74, s162_75, s162_78, s162_79, s162_80, s162_81, s162_84, s162_85, s162_86, s162_87, s162_90, s162_93, s162_94, s162_97, s162_98, s162_99, s162_100, s162_103, s162_104, s162_105, s162_106, s162_107, s162_108, s162_109, s162_112, am_pu_s, am_pu_n, va_rf_s, va_rf_n, Option.bind_some, true_or, or_true, eq_self, if_true, if_false, ite_self, ite_true, ite_false, ↓reduceIte, reduceCtorEq, Nat.reduceEqDiff, Nat.reduceAdd, Nat.reduceLT, Nat.reduceLeDiff, Nat.reduceMul, Nat.reduceSub, not_true_eq_false, not_false_eq_true, and_self, and_true, true_and, and_false, false_and, hF, kd66, rr66_2, ix69 hF hb, nI_cl (show b < 2147483648 by omega), mR_D h hb h0, nI_EQ]
      · obtain ⟨σ2, e2, hp2⟩ := m161 (X := X) (d := d) h hO hb (show 0 < 50 by omega)
        refine ⟨σ2, ?_, hp2⟩
        simp only [s162_0, s162_1, s162_48, s162_49, s162_52, s162_53, s162_54, s162_55, s162_56, s162_57, s162_60, s162_61, s162_62, s162_63, s162_66, s162_67, s162_68, s162_69, s162_72, s162_73, s162_74, s162_75, s162_78, s162_79, s162_80, s162_81, s162_84, s162_85, s162_86, s162_87, s162_90, s162_93, s162_94, s162_97, s162_98, s162_99, s162_100, s162_103, s162_104, s162_105, s162_106, s162_107, s162_108, s162_109, s162_112, am_pu_s, am_pu_n, va_rf_s, va_rf_n, Option.bind_some, true_or, or_true, eq_self, if_true, if_false, ite_self, ite_true, ite_false, ↓reduceIte, reduceCtorEq, Nat.reduceEqDiff, Nat.reduceAdd, Nat.reduceLT, Nat.reduceLeDiff, Nat.reduceMul, Nat.reduceSub, not_true_eq_false, not_false_eq_true, and_self, and_true, true_and, and_false, false_and, hF, kd66, nI_EQ, e2]
  · refine ⟨σ, ?_, am_pr.rf hF⟩
    rw [s163, e]
    simp only [s163_0, s163_1, s163_2, s163_5, s163_8, s163_10, s163_13, s163_14, s163_15, s163_17, s163_20, s163_23, s163_24, s163_25, s163_26, s163_29, s163_32, s163_34, am_pu_s, am_pu_n, va_rf_s, va_rf_n, Option.bind_some, true_or, or_true, eq_self, if_true, if_false, ite_self, ite_true, ite_false, ↓reduceIte, reduceCtorEq, Nat.reduceEqDiff, Nat.reduceAdd, Nat.reduceLT, Nat.reduceLeDiff, Nat.reduceMul, Nat.reduceSub, not_true_eq_false, not_false_eq_true, and_self, and_true, true_and, and_false, false_and, hF, kd66, m152n h e]
def rBeat (S : am_St) (v w : Int32) : Int32 := match tI S v with
  | none => -101
  | some b => if w < nI 0 ∨ nI (S 1 b 0) ≤ w then -101 else nI (S 0 b w.toNatClampNeg)
theorem c94 (h : cRep S σ) (hO : sOK N S) : am_v X (d + 2) 94 [.ref (0 : Nat), .int v, .int w] σ = some (some (.int (rBeat S v w)), σ) := by
  have hF := h.1
  unfold rBeat
  rcases tI_c S v with ⟨b, hb, rfl, h0, e⟩ | e
  · rw [e]
    dsimp only
    have hN := sO_N hO hb
    rw [s94]
    rcases pk_n w (S 1 b 0) (by omega) with h1 | ⟨j, hj, rfl⟩
    · rw [if_pos h1]
      by_cases h2 : w < nI 0
      · simp only [s94_0, s94_1, s94_4, s94_5, s94_8, s94_8n, s94_9, s94_9n, s94_10n, s94_10, s94_13, s94_14, s94_17, s94_18, s94_18n, s94_19, s94_22, s94_25, s94_27, s94_28, s94_28n, s94_29, s94_30, s94_33, am_pu_s, am_pu_n, va_rf_s, va_rf_n, Option.bind_some, true_or, or_true, eq_self, if_true, if_false, ite_self, ite_true, ite_false, ↓reduceIte, reduceCtorEq, Nat.reduceEqDiff, Nat.reduceAdd, Nat.reduceLT, Nat.reduceLeDiff, Nat.reduceMul, Nat.reduceSub, not_true_eq_false, not_false_eq_true, and_self, and_true, true_and, and_false, false_and, hF, kd0, rr0_2, kd8, m76s h hO hb h0, h2]
      · have h3 : nI (S 1 b 0) ≤ w := h1.resolve_left h2
        have h4 : ¬ w < nI (S 1 b 0) := Int32.not_lt.mpr h3
        simp only [s94_0, s94_1, s94_4, s94_5, s94_8, s94_8n, s94_9, s94_9n, s94_10n, s94_10, s94_13, s94_14, s94_17, s94_18, s94_18n, s94_19, s94_22, s94_25, s94_27, s94_28, s94_28n, s94_29, s94_30, s94_33, am_pu_s, am_pu_n, va_rf_s, va_rf_n, Option.bind_some, true_or, or_true, eq_self, if_true, if_false, ite_self, ite_true, ite_false, ↓reduceIte, reduceCtorEq, Nat.reduceEqDiff, Nat.reduceAdd, Nat.reduceLT, Nat.reduceLeDiff, Nat.reduceMul, Nat.reduceSub, not_true_eq_false, not_false_eq_true, and_self, and_true, true_and, and_false, false_and, hF, kd0, rr0_2, kd8, m76s h hO hb h0, kdT hF (isTu8 hb), cR_N h hb, h2, h4]
    · have h2 : ¬ nI j < nI 0 := nI_pos (by omega)
      have h4 : nI j < nI (S 1 b 0) := nI_lt hj (by omega)
      rw [if_neg (pk_nN hj (by omega)), nI_cl (show j < 2147483648 by omega)]
      simp only [s94_0, s94_1, s94_4, s94_5, s94_8, s94_8n, s94_9, s94_9n, s94_10n, s94_10, s94_13, s94_14, s94_17, s94_18, s94_18n, s94_19, s94_22, s94_25, s94_27, s94_28, s94_28n, s94_29, s94_30, s94_33, am_pu_s, am_pu_n, va_rf_s, va_rf_n, Option.bind_some, true_or, or_true, eq_self, if_true, if_false, ite_self, ite_true, ite_false, ↓reduceIte, reduceCtorEq, Nat.reduceEqDiff, Nat.reduceAdd, Nat.reduceLT, Nat.reduceLeDiff, Nat.reduceMul, Nat.reduceSub, not_true_eq_false, not_false_eq_true, and_self, and_true, true_and, and_false, false_and, hF, kd0, rr0_2, kd8, m76s h hO hb h0, kdT hF (isTu8 hb), cR_N h hb, h2, h4, m51 hF (isTu8 hb) (cR_T h hb) hN (show j ≤ 60 by omega), hj]
  · rw [s94, e]
    simp only [s94_0, s94_1, s94_4, s94_5, s94_8, s94_8n, s94_9, s94_9n, s94_10n, s94_10, s94_13, s94_14, s94_17, s94_18, s94_18n, s94_19, s94_22, s94_25, s94_27, s94_28, s94_28n, s94_29, s94_30, s94_33, am_pu_s, am_pu_n, va_rf_s, va_rf_n, Option.bind_some, true_or, or_true, eq_self, if_true, if_false, ite_self, ite_true, ite_false, ↓reduceIte, reduceCtorEq, Nat.reduceEqDiff, Nat.reduceAdd, Nat.reduceLT, Nat.reduceLeDiff, Nat.reduceMul, Nat.reduceSub, not_true_eq_false, not_false_eq_true, and_self, and_true, true_and, and_false, false_and, hF, kd0, rr0_2, kd8, m76n h e]
theorem c164 (h : mRep S σ) (hO : sOK N S) : am_v X (d + 3) 164 [.ref (66 : Nat), .int v, .int w] σ = some (some (.int (rBeat S v w)), σ) := by
  have hF := h.1
  unfold rBeat
  rcases tI_c S v with ⟨b, hb, rfl, h0, e⟩ | e
  · rw [e]
    dsimp only
    have hN := sO_N hO hb
    rw [s164]
    rcases pk_n w (S 1 b 0) (by omega) with h1 | ⟨j, hj, rfl⟩
    · have h2 : ¬ (nI 0 ≤ w ∧ w ≤ nI (S 1 b 0 - 1)) := by
        intro q
        rcases h1 with h1 | h1
        · exact Int32.not_lt.mpr q.1 h1
        · exact nI_ge (show S 1 b 0 - 1 < S 1 b 0 by omega) (by omega) (Int32.le_trans h1 q.2)
      rw [if_pos h1]
      simp only [s164_0, s164_1, s164_2, s164_5, s164_8, s164_9, s164_10, s164_11, s164_14, s164_15, s164_16, s164_17, s164_18, s164_21, s164_24, s164_25, s164_26, s164_27, s164_30, s164_33, s164_35, am_pu_s, am_pu_n, va_rf_s, va_rf_n, Option.bind_some, true_or, or_true, eq_self, if_true, if_false, ite_self, ite_true, ite_false, ↓reduceIte, reduceCtorEq, Nat.reduceEqDiff, Nat.reduceAdd, Nat.reduceLT, Nat.reduceLeDiff, Nat.reduceMul, Nat.reduceSub, not_true_eq_false, not_false_eq_true, and_self, and_true, true_and, and_false, false_and, hF, kd66, rr66_1, ix68 hF hb, nI_cl (show b < 2147483648 by omega), mR_N h hb, m152s h hO hb h0, nI_10, pk_sub (show 1 ≤ S 1 b 0 by omega), m124, bI_f h2]
    · have h2 : nI 0 ≤ nI j ∧ nI j ≤ nI (S 1 b 0 - 1) := ⟨nI_le (by omega) (by omega), nI_le (by omega) (by omega)⟩
      rw [if_neg (pk_nN hj (by omega)), nI_cl (show j < 2147483648 by omega)]
      simp only [s164_0, s164_1, s164_2, s164_5, s164_8, s164_9, s164_10, s164_11, s164_14, s164_15, s164_16, s164_17, s164_18, s164_21, s164_24, s164_25, s164_26, s164_27, s164_30, s164_33, s164_35, am_pu_s, am_pu_n, va_rf_s, va_rf_n, Option.bind_some, true_or, or_true, eq_self, if_true, if_false, ite_self, ite_true, ite_false, ↓reduceIte, reduceCtorEq, Nat.reduceEqDiff, Nat.reduceAdd, Nat.reduceLT, Nat.reduceLeDiff, Nat.reduceMul, Nat.reduceSub, not_true_eq_false, not_false_eq_true, and_self, and_true, true_and, and_false, false_and, hF, kd66, rr66_1, ix68 hF hb, nI_cl (show b < 2147483648 by omega), mR_N h hb, m152s h hO hb h0, nI_10, pk_sub (show 1 ≤ S 1 b 0 by omega), m124, bI_t h2, m154 h hb (show j < 60 by omega)]
  · rw [s164, e]
    simp only [s164_0, s164_1, s164_2, s164_5, s164_8, s164_9, s164_10, s164_11, s164_14, s164_15, s164_16, s164_17, s164_18, s164_21, s164_24, s164_25, s164_26, s164_27, s164_30, s164_33, s164_35, am_pu_s, am_pu_n, va_rf_s, va_rf_n, Option.bind_some, true_or, or_true, eq_self, if_true, if_false, ite_self, ite_true, ite_false, ↓reduceIte, reduceCtorEq, Nat.reduceEqDiff, Nat.reduceAdd, Nat.reduceLT, Nat.reduceLeDiff, Nat.reduceMul, Nat.reduceSub, not_true_eq_false, not_false_eq_true, and_self, and_true, true_and, and_false, false_and, hF, kd66, m152n h e]
end MT
