/-! by how many GATES all TUNES would pass -/
theorem tI_0 {S : am_St} {k : Nat} (hk : k < 4) (h : S 1 k 0 = 0) : tI S (nI k) = none := by
  unfold tI
  rw [if_neg (by intro q; rcases q with q | q; exact nI_pos (by omega) q; exact nI_ge hk (by decide) q), nI_cl (show k < 2147483648 by omega), if_pos h]
theorem tI_s {S : am_St} {k : Nat} (hk : k < 4) (h : 0 < S 1 k 0) : tI S (nI k) = some k := by
  unfold tI
  rw [if_neg (by intro q; rcases q with q | q; exact nI_pos (by omega) q; exact nI_ge hk (by decide) q), nI_cl (show k < 2147483648 by omega), if_neg (by omega)]
def sTw (S : am_St) : Nat → Nat := sSum (fun b => if 0 < S 1 b 0 then sPs S b 0 else 0)
section CO
variable {X : am_X} {d N : Nat} {σ : am_M} {S : am_St}
theorem m118 (h : cRep S σ) (hO : sOK N S) : ∃ σ', am_v X (d + 7) 118 [.ref (0 : Nat)] σ = some (some (.int (nI (sTw S 4))), σ') ∧ am_pr nsA σ σ' := by
  have loop : ∀ m k σ1 l3, k + m = 4 → am_pr nsA σ σ1 → ∃ σ', am_w X (d + 6) 118 4 [some (.ref (0 : Nat)), some (.int (nI (sTw S k))), some (.int (nI k)), l3] [] σ1 = some (some (.int (nI (sTw S 4))), σ') ∧ am_pr nsA σ σ' := by
    intro m
    induction m with
    | zero =>
      intro k σ1 l3 hk hp1
      have hk : k = 4 := by omega
      subst hk
      refine ⟨σ1, ?_, hp1⟩
      rw [s118_4]
      simp only [s118_0, s118_1, s118_2, s118_3, s118_5, s118_6, s118_9, s118_10, s118_13, s118_14, s118_17, s118_17n, s118_18, s118_18n, s118_19n, s118_19, s118_22, s118_23, s118_24, s118_24n, s118_25, s118_26, s118_29, s118_30, s118_31, s118_34, s118_37, s118_38, am_pu_s, am_pu_n, va_rf_s, va_rf_n, Option.bind_some, true_or, or_true, eq_self, if_true, if_false, ite_self, ite_true, ite_false, ↓reduceIte, reduceCtorEq, Nat.reduceEqDiff, Nat.reduceAdd, Nat.reduceLT, Nat.reduceLeDiff, Nat.reduceMul, Nat.reduceSub, not_true_eq_false, not_false_eq_true, and_self, and_true, true_and, and_false, false_and, nI_LE]
    | succ m ih =>
      intro k σ1 l3 hk hp1
      have h1 := h.prA hp1
      have hk4 : k < 4 := by omega
      have h2 : ¬ nI 4 ≤ nI k := nI_ge (by omega) (by decide)
      rw [s118_4]
      by_cases h3 : 0 < S 1 k 0
      · obtain ⟨σ2, e2, hp2⟩ := m117 (X := X) (d := d) h1 hO hk4 (show 0 < 50 by omega)
        simp only [s118_0, s118_1, s118_2, s118_3, s118_5, s118_6, s118_9, s118_10, s118_13, s118_14, s118_17, s118_17n, s118_18, s118_18n, s118_19n, s118_19, s118_22, s118_23, s118_24, s118_24n, s118_25, s118_26, s118_29, s118_30, s118_31, s118_34, s118_37, s118_38, am_pu_s, am_pu_n, va_rf_s, va_rf_n, Option.bind_some, true_or, or_true, eq_self, if_true, if_false, ite_self, ite_true, ite_false, ↓reduceIte, reduceCtorEq, Nat.reduceEqDiff, Nat.reduceAdd, Nat.reduceLT, Nat.reduceLeDiff, Nat.reduceMul, Nat.reduceSub, not_true_eq_false, not_false_eq_true, and_self, and_true, true_and, and_false, false_and, h1.1, kd0, rr0_2, kd8, h2, m76s h1 hO hk4 h3, e2, nI_add]
        have := ih (k + 1) σ2 (some (.ref (15 + 3 * k))) (by omega) (hp1.tr hp2)
        unfold sTw at this ⊢
        rw [sSum, if_pos h3] at this
        exact this
      · simp only [s118_0, s118_1, s118_2, s118_3, s118_5, s118_6, s118_9, s118_10, s118_13, s118_14, s118_17, s118_17n, s118_18, s118_18n, s118_19n, s118_19, s118_22, s118_23, s118_24, s118_24n, s118_25, s118_26, s118_29, s118_30, s118_31, s118_34, s118_37, s118_38, am_pu_s, am_pu_n, va_rf_s, va_rf_n, Option.bind_some, true_or, or_true, eq_self, if_true, if_false, ite_self, ite_true, ite_false, ↓reduceIte, reduceCtorEq, Nat.reduceEqDiff, Nat.reduceAdd, Nat.reduceLT, Nat.reduceLeDiff, Nat.reduceMul, Nat.reduceSub, not_true_eq_false, not_false_eq_true, and_self, and_true, true_and, and_false, false_and, h1.1, kd0, rr0_2, kd8, h2, m76n h1 (tI_0 hk4 (by omega)), nI_add]
        have := ih (k + 1) σ1 (some .null) (by omega) hp1
        unfold sTw at this ⊢
        rw [sSum, if_neg h3] at this
        exact this
  obtain ⟨σ', e2, hp2⟩ := loop 4 0 σ none (by omega) (am_pr.rf h.1)
  refine ⟨σ', ?_, hp2⟩
  rw [s118]
  simp only [s118_0, s118_1, s118_2, s118_3, s118_5, s118_6, s118_9, s118_10, s118_13, s118_14, s118_17, s118_17n, s118_18, s118_18n, s118_19n, s118_19, s118_22, s118_23, s118_24, s118_24n, s118_25, s118_26, s118_29, s118_30, s118_31, s118_34, s118_37, s118_38, am_pu_s, am_pu_n, va_rf_s, va_rf_n, Option.bind_some, true_or, or_true, eq_self, if_true, if_false, ite_self, ite_true, ite_false, ↓reduceIte, reduceCtorEq, Nat.reduceEqDiff, Nat.reduceAdd, Nat.reduceLT, Nat.reduceLeDiff, Nat.reduceMul, Nat.reduceSub, not_true_eq_false, not_false_eq_true, and_self, and_true, true_and, and_false, false_and]
  exact e2
theorem m209 (h : mRep S σ) (hO : sOK N S) : ∃ σ', am_v X (d + 7) 209 [.ref (66 : Nat)] σ = some (some (.int (nI (sTw S 4))), σ') ∧ am_pr nsA σ σ' := by
  have loop : ∀ m k σ1, k + m = 4 → am_pr nsA σ σ1 → ∃ σ', am_w X (d + 6) 209 4 [some (.ref (66 : Nat)), some (.int (nI (sTw S k))), some (.int (nI k))] [] σ1 = some (some (.int (nI (sTw S 4))), σ') ∧ am_pr nsA σ σ' := by
    intro m
    induction m with
    | zero =>
      intro k σ1 hk hp1
      have hk : k = 4 := by omega
      subst hk
      refine ⟨σ1, ?_, hp1⟩
      rw [s209_4]
      simp only [s209_0, s209_1, s209_2, s209_3, s209_5, s209_6, s209_9, s209_10, s209_11, s209_14, s209_15, s209_16, s209_19, s209_20, s209_21, s209_22, s209_25, s209_28, s209_29, s209_30, s209_31, s209_34, s209_37, s209_38, am_pu_s, am_pu_n, va_rf_s, va_rf_n, Option.bind_some, true_or, or_true, eq_self, if_true, if_false, ite_self, ite_true, ite_false, ↓reduceIte, reduceCtorEq, Nat.reduceEqDiff, Nat.reduceAdd, Nat.reduceLT, Nat.reduceLeDiff, Nat.reduceMul, Nat.reduceSub, not_true_eq_false, not_false_eq_true, and_self, and_true, true_and, and_false, false_and, nI_LE]
    | succ m ih =>
      intro k σ1 hk hp1
      have h1 := h.prA hp1
      have hk4 : k < 4 := by omega
      have h2 : ¬ nI 4 ≤ nI k := nI_ge (by omega) (by decide)
      have hN := sO_N hO hk4
      have h4 : (nI (S 1 k 0) ≤ nI 0) = (S 1 k 0 ≤ 0) := nI_LE (by omega) (by decide)
      rw [s209_4]
      by_cases h3 : 0 < S 1 k 0
      · obtain ⟨σ2, e2, hp2⟩ := m161 (X := X) (d := d) h1 hO hk4 (show 0 < 50 by omega)
        have h5 : ¬ S 1 k 0 ≤ 0 := by omega
        simp only [s209_0, s209_1, s209_2, s209_3, s209_5, s209_6, s209_9, s209_10, s209_11, s209_14, s209_15, s209_16, s209_19, s209_20, s209_21, s209_22, s209_25, s209_28, s209_29, s209_30, s209_31, s209_34, s209_37, s209_38, am_pu_s, am_pu_n, va_rf_s, va_rf_n, Option.bind_some, true_or, or_true, eq_self, if_true, if_false, ite_self, ite_true, ite_false, ↓reduceIte, reduceCtorEq, Nat.reduceEqDiff, Nat.reduceAdd, Nat.reduceLT, Nat.reduceLeDiff, Nat.reduceMul, Nat.reduceSub, not_true_eq_false, not_false_eq_true, and_self, and_true, true_and, and_false, false_and, h1.1, kd66, rr66_1, ix68 h1.1 hk4, nI_cl (show k < 2147483648 by omega), mR_N h1 hk4, h2, h4, h5, e2, nI_add]
        have := ih (k + 1) σ2 (by omega) (hp1.tr hp2)
        unfold sTw at this ⊢
        rw [sSum, if_pos h3] at this
        exact this
      · have h5 : S 1 k 0 ≤ 0 := by omega
        simp only [s209_0, s209_1, s209_2, s209_3, s209_5, s209_6, s209_9, s209_10, s209_11, s209_14, s209_15, s209_16, s209_19, s209_20, s209_21, s209_22, s209_25, s209_28, s209_29, s209_30, s209_31, s209_34, s209_37, s209_38, am_pu_s, am_pu_n, va_rf_s, va_rf_n, Option.bind_some, true_or, or_true, eq_self, if_true, if_false, ite_self, ite_true, ite_false, ↓reduceIte, reduceCtorEq, Nat.reduceEqDiff, Nat.reduceAdd, Nat.reduceLT, Nat.reduceLeDiff, Nat.reduceMul, Nat.reduceSub, not_true_eq_false, not_false_eq_true, and_self, and_true, true_and, and_false, false_and, h1.1, kd66, rr66_1, ix68 h1.1 hk4, nI_cl (show k < 2147483648 by omega), mR_N h1 hk4, h2, h4, h5, nI_add]
        have := ih (k + 1) σ1 (by omega) hp1
        unfold sTw at this ⊢
        rw [sSum, if_neg h3] at this
        exact this
  obtain ⟨σ', e2, hp2⟩ := loop 4 0 σ (by omega) (am_pr.rf h.1)
  refine ⟨σ', ?_, hp2⟩
  rw [s209]
  simp only [s209_0, s209_1, s209_2, s209_3, s209_5, s209_6, s209_9, s209_10, s209_11, s209_14, s209_15, s209_16, s209_19, s209_20, s209_21, s209_22, s209_25, s209_28, s209_29, s209_30, s209_31, s209_34, s209_37, s209_38, am_pu_s, am_pu_n, va_rf_s, va_rf_n, Option.bind_some, true_or, or_true, eq_self, if_true, if_false, ite_self, ite_true, ite_false, ↓reduceIte, reduceCtorEq, Nat.reduceEqDiff, Nat.reduceAdd, Nat.reduceLT, Nat.reduceLeDiff, Nat.reduceMul, Nat.reduceSub, not_true_eq_false, not_false_eq_true, and_self, and_true, true_and, and_false, false_and]
  exact e2
end CO
