/-! runs of BEATS that two TUNES have alike; how often one is in another -/
def aRun (B C : Nat → Nat) (nA nC i j l : Nat) : Prop := i + l ≤ nA ∧ j + l ≤ nC ∧ ∀ t, t < l → B (i + t) = C (j + t)
abbrev aStd (B C : Nat → Nat) (n i : Nat) : Prop := ∀ t, t < n → B (i + t) = C t
section OF
variable {X : am_X} {d N a b : Nat} {σ : am_M} {S : am_St}
theorem m167 (h : mRep S σ) (hO : sOK N S) (ha : a < 4) (hb : b < 4) {i j : Nat} (hi : i ≤ S 1 a 0) (hj : j ≤ S 1 b 0) : ∃ r, am_v X (d + 2) 167 [.ref (66 : Nat), .int (nI a), .int (nI i), .int (nI b), .int (nI j)] σ = some (some (.int (nI r)), σ) ∧ aRun (S 0 a) (S 0 b) (S 1 a 0) (S 1 b 0) i j r ∧ ∀ l, aRun (S 0 a) (S 0 b) (S 1 a 0) (S 1 b 0) i j l → l ≤ r := by
  have hA := sO_N hO ha
  have hB := sO_N hO hb
  have hF := h.1
  have loop : ∀ m k, i + k + m = S 1 a 0 → aRun (S 0 a) (S 0 b) (S 1 a 0) (S 1 b 0) i j k → ∃ r, am_w X (d + 1) 167 3 [some (.ref (66 : Nat)), some (.int (nI a)), some (.int (nI i)), some (.int (nI b)), some (.int (nI j)), some (.int (nI k))] [] σ = some (some (.int (nI r)), σ) ∧ aRun (S 0 a) (S 0 b) (S 1 a 0) (S 1 b 0) i j r ∧ ∀ l, aRun (S 0 a) (S 0 b) (S 1 a 0) (S 1 b 0) i j l → l ≤ r := by
    intro m
    induction m with
    | zero =>
      intro k hk hr
      have e1 : nI (S 1 a 0) ≤ nI (i + k) := nI_le (by omega) (by omega)
      refine ⟨k, ?_, hr, fun l hl => by have := hl.1; omega⟩
      rw [s167_3]
      simp only [s167_0, s167_1, s167_4, s167_6, s167_7, s167_8, s167_11, s167_12, s167_13, s167_16, s167_18, s167_20, s167_21, s167_22, s167_25, s167_26, s167_27, s167_30, s167_31, s167_32, s167_33, s167_35, s167_36, s167_39, s167_40, s167_41, s167_43, s167_45, s167_46, s167_49, s167_52, s167_55, s167_58, s167_60, am_pu_s, am_pu_n, va_rf_s, va_rf_n, Option.bind_some, true_or, or_true, eq_self, if_true, if_false, ite_self, ite_true, ite_false, ↓reduceIte, reduceCtorEq, Nat.reduceEqDiff, Nat.reduceAdd, Nat.reduceLT, Nat.reduceLeDiff, Nat.reduceMul, Nat.reduceSub, not_true_eq_false, not_false_eq_true, and_self, and_true, true_and, and_false, false_and, nI_add, hF, kd66, rr66_1, ix68 hF ha, nI_cl (show a < 2147483648 by omega), mR_N h ha, e1]
    | succ m ih =>
      intro k hk hr
      have h2 := hr.2.1
      have e1 : ¬ nI (S 1 a 0) ≤ nI (i + k) := nI_ge (by omega) (by omega)
      rw [s167_3]
      by_cases h3 : S 1 b 0 ≤ j + k
      · have e2 : nI (S 1 b 0) ≤ nI (j + k) := nI_le h3 (by omega)
        refine ⟨k, ?_, hr, fun l hl => by have := hl.2.1; omega⟩
        simp only [s167_0, s167_1, s167_4, s167_6, s167_7, s167_8, s167_11, s167_12, s167_13, s167_16, s167_18, s167_20, s167_21, s167_22, s167_25, s167_26, s167_27, s167_30, s167_31, s167_32, s167_33, s167_35, s167_36, s167_39, s167_40, s167_41, s167_43, s167_45, s167_46, s167_49, s167_52, s167_55, s167_58, s167_60, am_pu_s, am_pu_n, va_rf_s, va_rf_n, Option.bind_some, true_or, or_true, eq_self, if_true, if_false, ite_self, ite_true, ite_false, ↓reduceIte, reduceCtorEq, Nat.reduceEqDiff, Nat.reduceAdd, Nat.reduceLT, Nat.reduceLeDiff, Nat.reduceMul, Nat.reduceSub, not_true_eq_false, not_false_eq_true, and_self, and_true, true_and, and_false, false_and, nI_add, hF, kd66, rr66_1, ix68 hF ha, ix68 hF hb, nI_cl (show a < 2147483648 by omega), nI_cl (show b < 2147483648 by omega), mR_N h ha, mR_N h hb, e1, e2]
      · have e2 : ¬ nI (S 1 b 0) ≤ nI (j + k) := nI_ge (by omega) (by omega)
        have e3 : (nI (S 0 a (i + k)) = nI (S 0 b (j + k))) = (S 0 a (i + k) = S 0 b (j + k)) := nI_EQ (by have := sO_B hO ha (show i + k < 60 by omega); omega) (by have := sO_B hO hb (show j + k < 60 by omega); omega)
        by_cases h4 : S 0 a (i + k) = S 0 b (j + k)
        · obtain ⟨r, q1, q2, q3⟩ := ih (k + 1) (by omega) ⟨by omega, by omega, fun t ht => by
            by_cases h5 : t = k
            · rw [h5]; exact h4
            · exact hr.2.2 t (by omega)⟩
          refine ⟨r, ?_, q2, q3⟩
          simp only [s167_0, s167_1, s167_4, s167_6, s167_7, s167_8, s167_11, s167_12, s167_13, s167_16, s167_18, s167_20, s167_21, s167_22, s167_25, s167_26, s167_27, s167_30, s167_31, s167_32, s167_33, s167_35, s167_36, s167_39, s167_40, s167_41, s167_43, s167_45, s167_46, s167_49, s167_52, s167_55, s167_58, s167_60, am_pu_s, am_pu_n, va_rf_s, va_rf_n, Option.bind_some, true_or, or_true, eq_self, if_true, if_false, ite_self, ite_true, ite_false, ↓reduceIte, reduceCtorEq, Nat.reduceEqDiff, Nat.reduceAdd, Nat.reduceLT, Nat.reduceLeDiff, Nat.reduceMul, Nat.reduceSub, not_true_eq_false, not_false_eq_true, and_self, and_true, true_and, and_false, false_and, nI_add, hF, kd66, rr66_1, ix68 hF ha, ix68 hF hb, nI_cl (show a < 2147483648 by omega), nI_cl (show b < 2147483648 by omega), mR_N h ha, mR_N h hb, e1, e2, m154 h ha (show i + k < 60 by omega), m154 h hb (show j + k < 60 by omega), e3, h4]
          exact q1
        · refine ⟨k, ?_, hr, fun l hl => by
            by_cases h5 : l ≤ k
            · exact h5
            · exact absurd (hl.2.2 k (by omega)) h4⟩
          simp only [s167_0, s167_1, s167_4, s167_6, s167_7, s167_8, s167_11, s167_12, s167_13, s167_16, s167_18, s167_20, s167_21, s167_22, s167_25, s167_26, s167_27, s167_30, s167_31, s167_32, s167_33, s167_35, s167_36, s167_39, s167_40, s167_41, s167_43, s167_45, s167_46, s167_49, s167_52, s167_55, s167_58, s167_60, am_pu_s, am_pu_n, va_rf_s, va_rf_n, Option.bind_some, true_or, or_true, eq_self, if_true, if_false, ite_self, ite_true, ite_false, ↓reduceIte, reduceCtorEq, Nat.reduceEqDiff, Nat.reduceAdd, Nat.reduceLT, Nat.reduceLeDiff, Nat.reduceMul, Nat.reduceSub, not_true_eq_false, not_false_eq_true, and_self, and_true, true_and, and_false, false_and, nI_add, hF, kd66, rr66_1, ix68 hF ha, ix68 hF hb, nI_cl (show a < 2147483648 by omega), nI_cl (show b < 2147483648 by omega), mR_N h ha, mR_N h hb, e1, e2, m154 h ha (show i + k < 60 by omega), m154 h hb (show j + k < 60 by omega), e3, h4]
  obtain ⟨r, q1, q2, q3⟩ := loop (S 1 a 0 - i) 0 (by omega) ⟨by omega, by omega, fun t ht => absurd ht (by omega)⟩
  refine ⟨r, ?_, q2, q3⟩
  rw [s167]
  simp only [s167_0, s167_1, s167_4, s167_6, s167_7, s167_8, s167_11, s167_12, s167_13, s167_16, s167_18, s167_20, s167_21, s167_22, s167_25, s167_26, s167_27, s167_30, s167_31, s167_32, s167_33, s167_35, s167_36, s167_39, s167_40, s167_41, s167_43, s167_45, s167_46, s167_49, s167_52, s167_55, s167_58, s167_60, am_pu_s, am_pu_n, va_rf_s, va_rf_n, Option.bind_some, true_or, or_true, eq_self, if_true, if_false, ite_self, ite_true, ite_false, ↓reduceIte, reduceCtorEq, Nat.reduceEqDiff, Nat.reduceAdd, Nat.reduceLT, Nat.reduceLeDiff, Nat.reduceMul, Nat.reduceSub, not_true_eq_false, not_false_eq_true, and_self, and_true, true_and, and_false, false_and]
  exact q1
theorem m20 (h : cRep S σ) (hO : sOK N S) (ha : a < 4) (hb : b < 4) {i : Nat} (hi : i + S 1 b 0 ≤ S 1 a 0) : am_v X (d + 2) 20 [.ref (55 : Nat), .ref (15 + 3 * a), .ref (15 + 3 * b), .int (nI i)] σ = some (some (.int (bI (aStd (S 0 a) (S 0 b) (S 1 b 0) i))), σ) := by
  have hA := sO_N hO ha
  have hB := sO_N hO hb
  have hF := h.1
  have loop : ∀ m k, k + m = S 1 b 0 → aStd (S 0 a) (S 0 b) k i → am_w X (d + 1) 20 3 [some (.ref (55 : Nat)), some (.ref (15 + 3 * a)), some (.ref (15 + 3 * b)), some (.int (nI i)), some (.int (nI k))] [] σ = some (some (.int (bI (aStd (S 0 a) (S 0 b) (S 1 b 0) i))), σ) := by
    intro m
    induction m with
    | zero =>
      intro k hk hr
      have hk : k = S 1 b 0 := by omega
      subst hk
      rw [s20_3, bI_t hr]
      simp only [s20_0, s20_1, s20_5, s20_6, s20_9, s20_12, s20_13, s20_14, s20_16, s20_17, s20_20, s20_21, s20_23, s20_26, s20_29, s20_30, s20_31, s20_34, s20_37, s20_38, am_pu_s, am_pu_n, va_rf_s, va_rf_n, Option.bind_some, true_or, or_true, eq_self, if_true, if_false, ite_self, ite_true, ite_false, ↓reduceIte, reduceCtorEq, Nat.reduceEqDiff, Nat.reduceAdd, Nat.reduceLT, Nat.reduceLeDiff, Nat.reduceMul, Nat.reduceSub, not_true_eq_false, not_false_eq_true, and_self, and_true, true_and, and_false, false_and, kdT hF (isTu8 hb), cR_N h hb, Int32.le_refl]
    | succ m ih =>
      intro k hk hr
      have e1 : ¬ nI (S 1 b 0) ≤ nI k := nI_ge (by omega) (by omega)
      have e3 : (nI (S 0 a (i + k)) = nI (S 0 b k)) = (S 0 a (i + k) = S 0 b k) := nI_EQ (by have := sO_B hO ha (show i + k < 60 by omega); omega) (by have := sO_B hO hb (show k < 60 by omega); omega)
      rw [s20_3]
      by_cases h4 : S 0 a (i + k) = S 0 b k
      · simp only [s20_0, s20_1, s20_5, s20_6, s20_9, s20_12, s20_13, s20_14, s20_16, s20_17, s20_20, s20_21, s20_23, s20_26, s20_29, s20_30, s20_31, s20_34, s20_37, s20_38, am_pu_s, am_pu_n, va_rf_s, va_rf_n, Option.bind_some, true_or, or_true, eq_self, if_true, if_false, ite_self, ite_true, ite_false, ↓reduceIte, reduceCtorEq, Nat.reduceEqDiff, Nat.reduceAdd, Nat.reduceLT, Nat.reduceLeDiff, Nat.reduceMul, Nat.reduceSub, not_true_eq_false, not_false_eq_true, and_self, and_true, true_and, and_false, false_and, nI_add, kdT hF (isTu8 ha), kdT hF (isTu8 hb), cR_N h hb, e1, m51 hF (isTu8 ha) (cR_T h ha) hA (show i + k ≤ 60 by omega), m51 hF (isTu8 hb) (cR_T h hb) hB (show k ≤ 60 by omega), show i + k < S 1 a 0 by omega, show k < S 1 b 0 by omega, e3, h4]
        exact ih (k + 1) (by omega) (fun t ht => by
          by_cases h5 : t = k
          · rw [h5]; exact h4
          · exact hr t (by omega))
      · rw [bI_f (show ¬ aStd (S 0 a) (S 0 b) (S 1 b 0) i from fun q => h4 (q k (by omega)))]
        simp only [s20_0, s20_1, s20_5, s20_6, s20_9, s20_12, s20_13, s20_14, s20_16, s20_17, s20_20, s20_21, s20_23, s20_26, s20_29, s20_30, s20_31, s20_34, s20_37, s20_38, am_pu_s, am_pu_n, va_rf_s, va_rf_n, Option.bind_some, true_or, or_true, eq_self, if_true, if_false, ite_self, ite_true, ite_false, ↓reduceIte, reduceCtorEq, Nat.reduceEqDiff, Nat.reduceAdd, Nat.reduceLT, Nat.reduceLeDiff, Nat.reduceMul, Nat.reduceSub, not_true_eq_false, not_false_eq_true, and_self, and_true, true_and, and_false, false_and, nI_add, kdT hF (isTu8 ha), kdT hF (isTu8 hb), cR_N h hb, e1, m51 hF (isTu8 ha) (cR_T h ha) hA (show i + k ≤ 60 by omega), m51 hF (isTu8 hb) (cR_T h hb) hB (show k ≤ 60 by omega), show i + k < S 1 a 0 by omega, show k < S 1 b 0 by omega, e3, h4]
  rw [s20]
  simp only [s20_0, s20_1, s20_5, s20_6, s20_9, s20_12, s20_13, s20_14, s20_16, s20_17, s20_20, s20_21, s20_23, s20_26, s20_29, s20_30, s20_31, s20_34, s20_37, s20_38, am_pu_s, am_pu_n, va_rf_s, va_rf_n, Option.bind_some, true_or, or_true, eq_self, if_true, if_false, ite_self, ite_true, ite_false, ↓reduceIte, reduceCtorEq, Nat.reduceEqDiff, Nat.reduceAdd, Nat.reduceLT, Nat.reduceLeDiff, Nat.reduceMul, Nat.reduceSub, not_true_eq_false, not_false_eq_true, and_self, and_true, true_and, and_false, false_and]
  exact loop (S 1 b 0) 0 (by omega) (fun t ht => absurd ht (by omega))
def sOf (S : am_St) (a b : Nat) : Nat → Nat := sSum (fun i => if aStd (S 0 a) (S 0 b) (S 1 b 0) i then 1 else 0)
def rOfN (S : am_St) (a b : Nat) : Nat := sOf S a b (S 1 a 0 + 1 - S 1 b 0)
theorem m19 (h : cRep S σ) (hO : sOK N S) (ha : a < 4) (hb : b < 4) : am_v X (d + 3) 19 [.ref (55 : Nat), .ref (15 + 3 * a), .ref (15 + 3 * b)] σ = some (some (.int (nI (rOfN S a b))), σ) := by
  have hA := sO_N hO ha
  have hB := sO_N hO hb
  have hF := h.1
  have loop : ∀ m k, k + m = S 1 a 0 + 1 - S 1 b 0 → am_w X (d + 2) 19 5 [some (.ref (55 : Nat)), some (.ref (15 + 3 * a)), some (.ref (15 + 3 * b)), some (.int (nI (sOf S a b k))), some (.int (nI k))] [] σ = some (some (.int (nI (rOfN S a b))), σ) := by
    intro m
    induction m with
    | zero =>
      intro k hk
      have hk : k = S 1 a 0 + 1 - S 1 b 0 := by omega
      subst hk
      have e1 : nI (S 1 a 0) - nI (S 1 b 0) < nI (S 1 a 0 + 1 - S 1 b 0) := by
        by_cases h5 : S 1 b 0 ≤ S 1 a 0
        · rw [pk_sub h5]
          exact nI_lt (by omega) (by omega)
        · rw [show S 1 a 0 + 1 - S 1 b 0 = 0 by omega]
          exact pk_sneg (by omega) (by omega)
      rw [s19_5]
      simp only [s19_0, s19_1, s19_2, s19_3, s19_7, s19_8, s19_11, s19_12, s19_15, s19_16, s19_19, s19_20, s19_21, s19_22, s19_24, s19_27, s19_30, s19_33, s19_36, s19_39, s19_40, am_pu_s, am_pu_n, va_rf_s, va_rf_n, Option.bind_some, true_or, or_true, eq_self, if_true, if_false, ite_self, ite_true, ite_false, ↓reduceIte, reduceCtorEq, Nat.reduceEqDiff, Nat.reduceAdd, Nat.reduceLT, Nat.reduceLeDiff, Nat.reduceMul, Nat.reduceSub, not_true_eq_false, not_false_eq_true, and_self, and_true, true_and, and_false, false_and, kdT hF (isTu8 ha), kdT hF (isTu8 hb), cR_N h ha, cR_N h hb, e1]
      rfl
    | succ m ih =>
      intro k hk
      have e1 : ¬ nI (S 1 a 0 - S 1 b 0) < nI k := nI_nlt (by omega) (by omega)
      have m1 := m20 (X := X) (d := d) h hO ha hb (i := k) (by omega)
      have hh := ih (k + 1) (by omega)
      rw [s19_5]
      by_cases h2 : aStd (S 0 a) (S 0 b) (S 1 b 0) k
      · rw [bI_t h2] at m1
        unfold sOf at hh ⊢
        rw [sSum, if_pos h2] at hh
        simp only [s19_0, s19_1, s19_2, s19_3, s19_7, s19_8, s19_11, s19_12, s19_15, s19_16, s19_19, s19_20, s19_21, s19_22, s19_24, s19_27, s19_30, s19_33, s19_36, s19_39, s19_40, am_pu_s, am_pu_n, va_rf_s, va_rf_n, Option.bind_some, true_or, or_true, eq_self, if_true, if_false, ite_self, ite_true, ite_false, ↓reduceIte, reduceCtorEq, Nat.reduceEqDiff, Nat.reduceAdd, Nat.reduceLT, Nat.reduceLeDiff, Nat.reduceMul, Nat.reduceSub, not_true_eq_false, not_false_eq_true, and_self, and_true, true_and, and_false, false_and, nI_add, nI_10, kd55 hF, kdT hF (isTu8 ha), kdT hF (isTu8 hb), cR_N h ha, cR_N h hb, pk_sub (show S 1 b 0 ≤ S 1 a 0 by omega), e1, m1]
        exact hh
      · rw [bI_f h2] at m1
        unfold sOf at hh ⊢
        rw [sSum, if_neg h2] at hh
        simp only [s19_0, s19_1, s19_2, s19_3, s19_7, s19_8, s19_11, s19_12, s19_15, s19_16, s19_19, s19_20, s19_21, s19_22, s19_24, s19_27, s19_30, s19_33, s19_36, s19_39, s19_40, am_pu_s, am_pu_n, va_rf_s, va_rf_n, Option.bind_some, true_or, or_true, eq_self, if_true, if_false, ite_self, ite_true, ite_false, ↓reduceIte, reduceCtorEq, Nat.reduceEqDiff, Nat.reduceAdd, Nat.reduceLT, Nat.reduceLeDiff, Nat.reduceMul, Nat.reduceSub, not_true_eq_false, not_false_eq_true, and_self, and_true, true_and, and_false, false_and, nI_add, nI_10, kd55 hF, kdT hF (isTu8 ha), kdT hF (isTu8 hb), cR_N h ha, cR_N h hb, pk_sub (show S 1 b 0 ≤ S 1 a 0 by omega), e1, m1]
        exact hh
  rw [s19]
  simp only [s19_0, s19_1, s19_2, s19_3, s19_7, s19_8, s19_11, s19_12, s19_15, s19_16, s19_19, s19_20, s19_21, s19_22, s19_24, s19_27, s19_30, s19_33, s19_36, s19_39, s19_40, am_pu_s, am_pu_n, va_rf_s, va_rf_n, Option.bind_some, true_or, or_true, eq_self, if_true, if_false, ite_self, ite_true, ite_false, ↓reduceIte, reduceCtorEq, Nat.reduceEqDiff, Nat.reduceAdd, Nat.reduceLT, Nat.reduceLeDiff, Nat.reduceMul, Nat.reduceSub, not_true_eq_false, not_false_eq_true, and_self, and_true, true_and, and_false, false_and]
  exact loop (S 1 a 0 + 1 - S 1 b 0) 0 (by omega)
theorem m170 (h : mRep S σ) (hO : sOK N S) (ha : a < 4) (hb : b < 4) : am_v X (d + 3) 170 [.ref (66 : Nat), .int (nI a), .int (nI b)] σ = some (some (.int (nI (rOfN S a b))), σ) := by
  have hA := sO_N hO ha
  have hB := sO_N hO hb
  have hF := h.1
  have loop : ∀ m k, k + m = S 1 a 0 + 1 - S 1 b 0 → am_w X (d + 2) 170 5 [some (.ref (66 : Nat)), some (.int (nI a)), some (.int (nI b)), some (.int (nI (sOf S a b k))), some (.int (nI k))] [] σ = some (some (.int (nI (rOfN S a b))), σ) := by
    intro m
    induction m with
    | zero =>
      intro k hk
      have hk : k = S 1 a 0 + 1 - S 1 b 0 := by omega
      subst hk
      have e1 : nI (S 1 a 0) < nI (S 1 a 0 + 1 - S 1 b 0 + S 1 b 0) := nI_lt (by omega) (by omega)
      rw [s170_5]
      simp only [s170_0, s170_1, s170_2, s170_3, s170_7, s170_8, s170_11, s170_12, s170_13, s170_14, s170_15, s170_18, s170_19, s170_20, s170_23, s170_24, s170_25, s170_26, s170_28, s170_29, s170_30, s170_33, s170_34, s170_37, s170_38, s170_39, s170_42, s170_43, s170_46, s170_47, s170_48, s170_49, s170_52, s170_55, s170_56, am_pu_s, am_pu_n, va_rf_s, va_rf_n, Option.bind_some, true_or, or_true, eq_self, if_true, if_false, ite_self, ite_true, ite_false, ↓reduceIte, reduceCtorEq, Nat.reduceEqDiff, Nat.reduceAdd, Nat.reduceLT, Nat.reduceLeDiff, Nat.reduceMul, Nat.reduceSub, not_true_eq_false, not_false_eq_true, and_self, and_true, true_and, and_false, false_and, nI_add, hF, kd66, rr66_1, ix68 hF ha, ix68 hF hb, nI_cl (show a < 2147483648 by omega), nI_cl (show b < 2147483648 by omega), mR_N h ha, mR_N h hb, e1]
      rfl
    | succ m ih =>
      intro k hk
      have e1 : ¬ nI (S 1 a 0) < nI (k + S 1 b 0) := nI_nlt (by omega) (by omega)
      obtain ⟨r, q1, q2, q3⟩ := m167 (X := X) (d := d) h hO ha hb (i := k) (j := 0) (by omega) (by omega)
      have q4 := q2.2.1
      have e2 : (nI r = nI (S 1 b 0)) = (r = S 1 b 0) := nI_EQ (by omega) (by omega)
      have hh := ih (k + 1) (by omega)
      rw [s170_5]
      by_cases h2 : aStd (S 0 a) (S 0 b) (S 1 b 0) k
      · have h3 : r = S 1 b 0 := by
          have := q3 (S 1 b 0) ⟨by omega, by omega, fun t ht => by rw [Nat.zero_add]; exact h2 t ht⟩
          omega
        unfold sOf at hh ⊢
        rw [sSum, if_pos h2] at hh
        simp only [s170_0, s170_1, s170_2, s170_3, s170_7, s170_8, s170_11, s170_12, s170_13, s170_14, s170_15, s170_18, s170_19, s170_20, s170_23, s170_24, s170_25, s170_26, s170_28, s170_29, s170_30, s170_33, s170_34, s170_37, s170_38, s170_39, s170_42, s170_43, s170_46, s170_47, s170_48, s170_49, s170_52, s170_55, s170_56, am_pu_s, am_pu_n, va_rf_s, va_rf_n, Option.bind_some, true_or, or_true, eq_self, if_true, if_false, ite_self, ite_true, ite_false, ↓reduceIte, reduceCtorEq, Nat.reduceEqDiff, Nat.reduceAdd, Nat.reduceLT, Nat.reduceLeDiff, Nat.reduceMul, Nat.reduceSub, not_true_eq_false, not_false_eq_true, and_self, and_true, true_and, and_false, false_and, nI_add, hF, kd66, rr66_1, ix68 hF ha, ix68 hF hb, nI_cl (show a < 2147483648 by omega), nI_cl (show b < 2147483648 by omega), mR_N h ha, mR_N h hb, e1, q1, e2, h3]
        exact hh
      · have h3 : ¬ r = S 1 b 0 := fun e => h2 fun t ht => by
          have := q2.2.2 t (by omega)
          rw [Nat.zero_add] at this
          exact this
        unfold sOf at hh ⊢
        rw [sSum, if_neg h2] at hh
        simp only [s170_0, s170_1, s170_2, s170_3, s170_7, s170_8, s170_11, s170_12, s170_13, s170_14, s170_15, s170_18, s170_19, s170_20, s170_23, s170_24, s170_25, s170_26, s170_28, s170_29, s170_30, s170_33, s170_34, s170_37, s170_38, s170_39, s170_42, s170_43, s170_46, s170_47, s170_48, s170_49, s170_52, s170_55, s170_56, am_pu_s, am_pu_n, va_rf_s, va_rf_n, Option.bind_some, true_or, or_true, eq_self, if_true, if_false, ite_self, ite_true, ite_false, ↓reduceIte, reduceCtorEq, Nat.reduceEqDiff, Nat.reduceAdd, Nat.reduceLT, Nat.reduceLeDiff, Nat.reduceMul, Nat.reduceSub, not_true_eq_false, not_false_eq_true, and_self, and_true, true_and, and_false, false_and, nI_add, hF, kd66, rr66_1, ix68 hF ha, ix68 hF hb, nI_cl (show a < 2147483648 by omega), nI_cl (show b < 2147483648 by omega), mR_N h ha, mR_N h hb, e1, q1, e2, h3]
        exact hh
  rw [s170]
  simp only [s170_0, s170_1, s170_2, s170_3, s170_7, s170_8, s170_11, s170_12, s170_13, s170_14, s170_15, s170_18, s170_19, s170_20, s170_23, s170_24, s170_25, s170_26, s170_28, s170_29, s170_30, s170_33, s170_34, s170_37, s170_38, s170_39, s170_42, s170_43, s170_46, s170_47, s170_48, s170_49, s170_52, s170_55, s170_56, am_pu_s, am_pu_n, va_rf_s, va_rf_n, Option.bind_some, true_or, or_true, eq_self, if_true, if_false, ite_self, ite_true, ite_false, ↓reduceIte, reduceCtorEq, Nat.reduceEqDiff, Nat.reduceAdd, Nat.reduceLT, Nat.reduceLeDiff, Nat.reduceMul, Nat.reduceSub, not_true_eq_false, not_false_eq_true, and_self, and_true, true_and, and_false, false_and]
  exact loop (S 1 a 0 + 1 - S 1 b 0) 0 (by omega)
def rOften (S : am_St) (v w : Int32) : Int32 := match tI S v, tI S w with
  | some a, some b => nI (rOfN S a b)
  | _, _ => -101
variable {v w : Int32}
theorem c97 (h : cRep S σ) (hO : sOK N S) : am_v X (d + 4) 97 [.ref (0 : Nat), .int v, .int w] σ = some (some (.int (rOften S v w)), σ) := by
  have hF := h.1
  unfold rOften
  rcases tI_c S v with ⟨b, hb, rfl, h0, e⟩ | e
  · rcases tI_c S w with ⟨g, hg, rfl, hg0, eg⟩ | eg
    · rw [s97]
      simp only [s97_0, s97_1, s97_4, s97_5, s97_8, s97_8n, s97_9, s97_10, s97_13, s97_14, s97_17, s97_17n, s97_19, s97_19n, s97_20n, s97_20, s97_23, s97_23n, s97_25n, s97_25, s97_28, s97_30, s97_31, s97_32, s97_35, s97_35n, s97_36, s97_36n, s97_38, s97_41, am_pu_s, am_pu_n, va_rf_s, va_rf_n, Option.bind_some, true_or, or_true, eq_self, if_true, if_false, ite_self, ite_true, ite_false, ↓reduceIte, reduceCtorEq, Nat.reduceEqDiff, Nat.reduceAdd, Nat.reduceLT, Nat.reduceLeDiff, Nat.reduceMul, Nat.reduceSub, not_true_eq_false, not_false_eq_true, and_self, and_true, true_and, and_false, false_and, hF, kd0, rr0_2, rr0_5, kd8, kd55, m76s h hO hb h0, m76s h hO hg hg0, m19 h hO hb hg, e, eg]
    · rw [s97]
      simp only [s97_0, s97_1, s97_4, s97_5, s97_8, s97_8n, s97_9, s97_10, s97_13, s97_14, s97_17, s97_17n, s97_19, s97_19n, s97_20n, s97_20, s97_23, s97_23n, s97_25n, s97_25, s97_28, s97_30, s97_31, s97_32, s97_35, s97_35n, s97_36, s97_36n, s97_38, s97_41, am_pu_s, am_pu_n, va_rf_s, va_rf_n, Option.bind_some, true_or, or_true, eq_self, if_true, if_false, ite_self, ite_true, ite_false, ↓reduceIte, reduceCtorEq, Nat.reduceEqDiff, Nat.reduceAdd, Nat.reduceLT, Nat.reduceLeDiff, Nat.reduceMul, Nat.reduceSub, not_true_eq_false, not_false_eq_true, and_self, and_true, true_and, and_false, false_and, hF, kd0, rr0_2, kd8, m76s h hO hb h0, m76n h eg, e, eg]
  · rw [s97]
    rcases tI_c S w with ⟨g, hg, rfl, hg0, eg⟩ | eg
    · simp only [s97_0, s97_1, s97_4, s97_5, s97_8, s97_8n, s97_9, s97_10, s97_13, s97_14, s97_17, s97_17n, s97_19, s97_19n, s97_20n, s97_20, s97_23, s97_23n, s97_25n, s97_25, s97_28, s97_30, s97_31, s97_32, s97_35, s97_35n, s97_36, s97_36n, s97_38, s97_41, am_pu_s, am_pu_n, va_rf_s, va_rf_n, Option.bind_some, true_or, or_true, eq_self, if_true, if_false, ite_self, ite_true, ite_false, ↓reduceIte, reduceCtorEq, Nat.reduceEqDiff, Nat.reduceAdd, Nat.reduceLT, Nat.reduceLeDiff, Nat.reduceMul, Nat.reduceSub, not_true_eq_false, not_false_eq_true, and_self, and_true, true_and, and_false, false_and, hF, kd0, rr0_2, kd8, m76n h e, m76s h hO hg hg0, e]
    · simp only [s97_0, s97_1, s97_4, s97_5, s97_8, s97_8n, s97_9, s97_10, s97_13, s97_14, s97_17, s97_17n, s97_19, s97_19n, s97_20n, s97_20, s97_23, s97_23n, s97_25n, s97_25, s97_28, s97_30, s97_31, s97_32, s97_35, s97_35n, s97_36, s97_36n, s97_38, s97_41, am_pu_s, am_pu_n, va_rf_s, va_rf_n, Option.bind_some, true_or, or_true, eq_self, if_true, if_false, ite_self, ite_true, ite_false, ↓reduceIte, reduceCtorEq, Nat.reduceEqDiff, Nat.reduceAdd, Nat.reduceLT, Nat.reduceLeDiff, Nat.reduceMul, Nat.reduceSub, not_true_eq_false, not_false_eq_true, and_self, and_true, true_and, and_false, false_and, hF, kd0, rr0_2, kd8, m76n h e, m76n h eg, e]
theorem c171 (h : mRep S σ) (hO : sOK N S) : am_v X (d + 4) 171 [.ref (66 : Nat), .int v, .int w] σ = some (some (.int (rOften S v w)), σ) := by
  have hF := h.1
  unfold rOften
  rcases tI_c S v with ⟨b, hb, rfl, h0, e⟩ | e
  · rcases tI_c S w with ⟨g, hg, rfl, hg0, eg⟩ | eg
    · rw [s171]
      simp only [s171_0, s171_1, s171_2, s171_5, s171_8, s171_9, s171_10, s171_13, s171_16, s171_17, s171_18, s171_19, s171_22, s171_25, s171_27, am_pu_s, am_pu_n, va_rf_s, va_rf_n, Option.bind_some, true_or, or_true, eq_self, if_true, if_false, ite_self, ite_true, ite_false, ↓reduceIte, reduceCtorEq, Nat.reduceEqDiff, Nat.reduceAdd, Nat.reduceLT, Nat.reduceLeDiff, Nat.reduceMul, Nat.reduceSub, not_true_eq_false, not_false_eq_true, and_self, and_true, true_and, and_false, false_and, hF, kd66, m152s h hO hb h0, m152s h hO hg hg0, nI_10, m170 h hO hb hg, e, eg]
    · rw [s171]
      simp only [s171_0, s171_1, s171_2, s171_5, s171_8, s171_9, s171_10, s171_13, s171_16, s171_17, s171_18, s171_19, s171_22, s171_25, s171_27, am_pu_s, am_pu_n, va_rf_s, va_rf_n, Option.bind_some, true_or, or_true, eq_self, if_true, if_false, ite_self, ite_true, ite_false, ↓reduceIte, reduceCtorEq, Nat.reduceEqDiff, Nat.reduceAdd, Nat.reduceLT, Nat.reduceLeDiff, Nat.reduceMul, Nat.reduceSub, not_true_eq_false, not_false_eq_true, and_self, and_true, true_and, and_false, false_and, hF, kd66, m152s h hO hb h0, m152n h eg, nI_10, e, eg]
  · rw [s171]
    simp only [s171_0, s171_1, s171_2, s171_5, s171_8, s171_9, s171_10, s171_13, s171_16, s171_17, s171_18, s171_19, s171_22, s171_25, s171_27, am_pu_s, am_pu_n, va_rf_s, va_rf_n, Option.bind_some, true_or, or_true, eq_self, if_true, if_false, ite_self, ite_true, ite_false, ↓reduceIte, reduceCtorEq, Nat.reduceEqDiff, Nat.reduceAdd, Nat.reduceLT, Nat.reduceLeDiff, Nat.reduceMul, Nat.reduceSub, not_true_eq_false, not_false_eq_true, and_self, and_true, true_and, and_false, false_and, hF, kd66, m152n h e, e]
end OF
