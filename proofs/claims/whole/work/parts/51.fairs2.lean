/-! fairs: the answers -/
theorem i32_nn {w : Int32} (h : ¬ w < nI 0) : ∃ s, s < 2 ^ 31 ∧ w = nI s := by
  have h0 : 0 ≤ w.toInt := by
    rw [Int32.lt_iff_toInt_lt, nI_toInt (by decide)] at h
    omega
  have h1 : w.toInt < 2 ^ 31 := Int32.toInt_lt w
  refine ⟨w.toInt.toNat, by omega, ?_⟩
  apply Int32.toInt.inj
  rw [nI_toInt (by omega)]
  omega
def rFairs (S : am_St) (v w x : Int32) : Int32 := if (v < nI 1 ∨ nI 60 < v) ∨ w < nI 0 ∨ (x < nI 0 ∨ nI 2 < x) then -102 else if S 4 0 0 = 0 then -103 else rFr S w.toNatClampNeg v.toNatClampNeg x.toNatClampNeg
section FT
variable {X : am_X} {d N : Nat} {σ : am_M} {S : am_St} {v w x : Int32}
theorem c110 (h : cRep S σ) (hO : sOK N S) : ∃ σ', am_v X (d + 7) 110 [.ref (0 : Nat), .int v, .int w, .int x] σ = some (some (.int (rFairs S v w x)), σ') ∧ am_pi nsB σ σ' ∧ (∀ o k, ¬ (o = 65 ∧ k = 0) → am_J σ' o k = am_J σ o k) := by
  have hF := h.1
  have hG4 := sO_G hO
  unfold rFairs
  by_cases c1 : v < nI 1
  · refine ⟨σ, ?_, am_pi.rf hF, fun _ _ _ => rfl⟩
    rw [if_pos (Or.inl (Or.inl c1)), s110]
    simp only [s110_0, s110_1, s110_2, s110_5, s110_6, s110_8, s110_11, s110_12, s110_15, s110_16, s110_19, s110_20, s110_21, s110_24, s110_26, am_pu_s, am_pu_n, va_rf_s, va_rf_n, Option.bind_some, true_or, or_true, eq_self, if_true, if_false, ite_self, ite_true, ite_false, ↓reduceIte, reduceCtorEq, Nat.reduceEqDiff, Nat.reduceAdd, Nat.reduceLT, Nat.reduceLeDiff, Nat.reduceMul, Nat.reduceSub, not_true_eq_false, not_false_eq_true, and_self, and_true, true_and, and_false, false_and, c1]
  by_cases c2 : nI 60 < v
  · refine ⟨σ, ?_, am_pi.rf hF, fun _ _ _ => rfl⟩
    rw [if_pos (Or.inl (Or.inr c2)), s110]
    simp only [s110_0, s110_1, s110_2, s110_5, s110_6, s110_8, s110_11, s110_12, s110_15, s110_16, s110_19, s110_20, s110_21, s110_24, s110_26, am_pu_s, am_pu_n, va_rf_s, va_rf_n, Option.bind_some, true_or, or_true, eq_self, if_true, if_false, ite_self, ite_true, ite_false, ↓reduceIte, reduceCtorEq, Nat.reduceEqDiff, Nat.reduceAdd, Nat.reduceLT, Nat.reduceLeDiff, Nat.reduceMul, Nat.reduceSub, not_true_eq_false, not_false_eq_true, and_self, and_true, true_and, and_false, false_and, c1, c2]
  by_cases c3 : w < nI 0
  · refine ⟨σ, ?_, am_pi.rf hF, fun _ _ _ => rfl⟩
    rw [if_pos (Or.inr (Or.inl c3)), s110]
    simp only [s110_0, s110_1, s110_2, s110_5, s110_6, s110_8, s110_11, s110_12, s110_15, s110_16, s110_19, s110_20, s110_21, s110_24, s110_26, am_pu_s, am_pu_n, va_rf_s, va_rf_n, Option.bind_some, true_or, or_true, eq_self, if_true, if_false, ite_self, ite_true, ite_false, ↓reduceIte, reduceCtorEq, Nat.reduceEqDiff, Nat.reduceAdd, Nat.reduceLT, Nat.reduceLeDiff, Nat.reduceMul, Nat.reduceSub, not_true_eq_false, not_false_eq_true, and_self, and_true, true_and, and_false, false_and, c1, c2, c3]
  by_cases c4 : x < nI 0
  · refine ⟨σ, ?_, am_pi.rf hF, fun _ _ _ => rfl⟩
    rw [if_pos (Or.inr (Or.inr (Or.inl c4))), s110]
    simp only [s110_0, s110_1, s110_2, s110_5, s110_6, s110_8, s110_11, s110_12, s110_15, s110_16, s110_19, s110_20, s110_21, s110_24, s110_26, am_pu_s, am_pu_n, va_rf_s, va_rf_n, Option.bind_some, true_or, or_true, eq_self, if_true, if_false, ite_self, ite_true, ite_false, ↓reduceIte, reduceCtorEq, Nat.reduceEqDiff, Nat.reduceAdd, Nat.reduceLT, Nat.reduceLeDiff, Nat.reduceMul, Nat.reduceSub, not_true_eq_false, not_false_eq_true, and_self, and_true, true_and, and_false, false_and, c1, c2, c3, c4]
  by_cases c5 : nI 2 < x
  · refine ⟨σ, ?_, am_pi.rf hF, fun _ _ _ => rfl⟩
    have c5' : ¬ x ≤ nI 2 := Int32.not_le.mpr c5
    rw [if_pos (Or.inr (Or.inr (Or.inr c5))), s110]
    simp only [s110_0, s110_1, s110_2, s110_5, s110_6, s110_8, s110_11, s110_12, s110_15, s110_16, s110_19, s110_20, s110_21, s110_24, s110_26, am_pu_s, am_pu_n, va_rf_s, va_rf_n, Option.bind_some, true_or, or_true, eq_self, if_true, if_false, ite_self, ite_true, ite_false, ↓reduceIte, reduceCtorEq, Nat.reduceEqDiff, Nat.reduceAdd, Nat.reduceLT, Nat.reduceLeDiff, Nat.reduceMul, Nat.reduceSub, not_true_eq_false, not_false_eq_true, and_self, and_true, true_and, and_false, false_and, c1, c2, c3, c4, c5']
  have c5' : x ≤ nI 2 := Int32.not_lt.mp c5
  rw [if_neg (by rintro ((q | q) | q | q | q); exact c1 q; exact c2 q; exact c3 q; exact c4 q; exact c5 q)]
  have e0 : (nI (S 4 0 0) = nI 0) = (S 4 0 0 = 0) := nI_EQ (by omega) (by decide)
  by_cases hG : S 4 0 0 = 0
  · refine ⟨σ, ?_, am_pi.rf hF, fun _ _ _ => rfl⟩
    rw [if_pos hG, s110]
    simp only [s110_0, s110_1, s110_2, s110_5, s110_6, s110_8, s110_11, s110_12, s110_15, s110_16, s110_19, s110_20, s110_21, s110_24, s110_26, s110_27, s110_28, s110_31, s110_34, s110_37, s110_39, am_pu_s, am_pu_n, va_rf_s, va_rf_n, Option.bind_some, true_or, or_true, eq_self, if_true, if_false, ite_self, ite_true, ite_false, ↓reduceIte, reduceCtorEq, Nat.reduceEqDiff, Nat.reduceAdd, Nat.reduceLT, Nat.reduceLeDiff, Nat.reduceMul, Nat.reduceSub, not_true_eq_false, not_false_eq_true, and_self, and_true, true_and, and_false, false_and, hF, kd0, kd8, rr0_2, cR_G h, e0, hG, c1, c2, c3, c4, c5']
  · rw [if_neg hG]
    obtain ⟨s, hs, rfl⟩ := i32_nn c3
    obtain ⟨n, hn, rfl⟩ := i32_nn (w := v) (fun q => c1 (Int32.lt_trans q (nI_lt (by decide) (by decide))))
    obtain ⟨j, hj, rfl⟩ := i32_nn c4
    have hn60 : n ≤ 60 := by
      by_cases q : n ≤ 60
      · exact q
      · exact absurd (nI_lt (show 60 < n by omega) hn) c2
    have hj3 : j < 3 := by
      by_cases q : j < 3
      · exact q
      · exact absurd (nI_lt (show 2 < j by omega) hj) c5
    obtain ⟨σ2, e2, hp2, k2, j2, p2, q2⟩ := m2 (X := X) (d := d) h hO hn60 hs (by omega)
    refine ⟨σ2, ?_, hp2, k2⟩
    rw [nI_cl (show s < 2147483648 by omega), nI_cl (show n < 2147483648 by omega), nI_cl (show j < 2147483648 by omega)]
    unfold rFr
    rw [s110]
    have hj4 : j = 0 ∨ j = 1 ∨ j = 2 := by omega
    rcases hj4 with rfl | rfl | rfl <;> simp only [s110_0, s110_1, s110_2, s110_5, s110_6, s110_8, s110_11, s110_12, s110_15, s110_16, s110_19, s110_20, s110_21, s110_24, s110_26, s110_27, s110_28, s110_31, s110_34, s110_37, s110_39, s110_40, s110_41, s110_44, s110_45, s110_48, s110_49, s110_52, s110_53, s110_54, s110_57, s110_58, s110_59, s110_62, s110_63, s110_66, s110_69, s110_70, s110_71, s110_72, s110_75, s110_76, s110_79, s110_82, s110_85, s110_86, s110_89, s110_92, am_pu_s, am_pu_n, va_rf_s, va_rf_n, Option.bind_some, true_or, or_true, eq_self, if_true, if_false, ite_self, ite_true, ite_false, ↓reduceIte, reduceCtorEq, Nat.reduceEqDiff, Nat.reduceAdd, Nat.reduceLT, Nat.reduceLeDiff, Nat.reduceMul, Nat.reduceSub, not_true_eq_false, not_false_eq_true, and_self, and_true, true_and, and_false, false_and, hF, hp2.1, kd0, kd8, kd54, kd65, rr0_2, rr0_4, rr0_7, cR_G h, e0, hG, c1, c2, c3, c4, c5', e2, nI_EQ, j2, p2, q2, lN_i]
theorem c201 (h : mRep S σ) (hO : sOK N S) : ∃ σ', am_v X (d + 7) 201 [.ref (66 : Nat), .int v, .int w, .int x] σ = some (some (.int (rFairs S v w x)), σ') ∧ am_pi nsB σ σ' ∧ (∀ o k, ¬ (o = 66 ∧ k = 41) → am_J σ' o k = am_J σ o k) := by
  have hF := h.1
  have hG4 := sO_G hO
  unfold rFairs
  by_cases c1 : v < nI 1 ∨ nI 60 < v
  · refine ⟨σ, ?_, am_pi.rf hF, fun _ _ _ => rfl⟩
    have b1 : ¬ (nI 1 ≤ v ∧ v ≤ nI 60) := fun q => by
      rcases c1 with c1 | c1
      · exact Int32.not_lt.mpr q.1 c1
      · exact Int32.not_lt.mpr q.2 c1
    rw [if_pos (Or.inl c1), s201]
    simp only [s201_0, s201_1, s201_2, s201_4, s201_7, s201_10, s201_11, s201_14, s201_15, s201_16, s201_17, s201_20, s201_23, s201_25, s201_26, s201_27, s201_30, s201_33, s201_35, s201_38, s201_39, s201_40, s201_41, s201_42, s201_45, am_pu_s, am_pu_n, va_rf_s, va_rf_n, Option.bind_some, true_or, or_true, eq_self, if_true, if_false, ite_self, ite_true, ite_false, ↓reduceIte, reduceCtorEq, Nat.reduceEqDiff, Nat.reduceAdd, Nat.reduceLT, Nat.reduceLeDiff, Nat.reduceMul, Nat.reduceSub, not_true_eq_false, not_false_eq_true, and_self, and_true, true_and, and_false, false_and, m124, bI_f b1]
  have b1 : nI 1 ≤ v ∧ v ≤ nI 60 := ⟨Int32.not_lt.mp fun q => c1 (Or.inl q), Int32.not_lt.mp fun q => c1 (Or.inr q)⟩
  by_cases c3 : w < nI 0
  · refine ⟨σ, ?_, am_pi.rf hF, fun _ _ _ => rfl⟩
    rw [if_pos (Or.inr (Or.inl c3)), s201]
    simp only [s201_0, s201_1, s201_2, s201_4, s201_7, s201_10, s201_11, s201_14, s201_15, s201_16, s201_17, s201_20, s201_23, s201_25, s201_26, s201_27, s201_30, s201_33, s201_35, s201_38, s201_39, s201_40, s201_41, s201_42, s201_45, am_pu_s, am_pu_n, va_rf_s, va_rf_n, Option.bind_some, true_or, or_true, eq_self, if_true, if_false, ite_self, ite_true, ite_false, ↓reduceIte, reduceCtorEq, Nat.reduceEqDiff, Nat.reduceAdd, Nat.reduceLT, Nat.reduceLeDiff, Nat.reduceMul, Nat.reduceSub, not_true_eq_false, not_false_eq_true, and_self, and_true, true_and, and_false, false_and, m124, bI_t b1, nI_10, c3]
  by_cases c4 : x < nI 0 ∨ nI 2 < x
  · refine ⟨σ, ?_, am_pi.rf hF, fun _ _ _ => rfl⟩
    have b2 : ¬ (nI 0 ≤ x ∧ x ≤ nI 2) := fun q => (wthin (by decide) rfl).mp q c4
    rw [if_pos (Or.inr (Or.inr c4)), s201]
    simp only [s201_0, s201_1, s201_2, s201_4, s201_7, s201_10, s201_11, s201_14, s201_15, s201_16, s201_17, s201_20, s201_23, s201_25, s201_26, s201_27, s201_30, s201_33, s201_35, s201_38, s201_39, s201_40, s201_41, s201_42, s201_45, am_pu_s, am_pu_n, va_rf_s, va_rf_n, Option.bind_some, true_or, or_true, eq_self, if_true, if_false, ite_self, ite_true, ite_false, ↓reduceIte, reduceCtorEq, Nat.reduceEqDiff, Nat.reduceAdd, Nat.reduceLT, Nat.reduceLeDiff, Nat.reduceMul, Nat.reduceSub, not_true_eq_false, not_false_eq_true, and_self, and_true, true_and, and_false, false_and, m124, bI_t b1, bI_f b2, nI_10, c3]
  have b2 : nI 0 ≤ x ∧ x ≤ nI 2 := (wthin (by decide) rfl).mpr c4
  rw [if_neg (by rintro (q | q | q); exact c1 q; exact c3 q; exact c4 q)]
  have e0 : (nI (S 4 0 0) = nI 0) = (S 4 0 0 = 0) := nI_EQ (by omega) (by decide)
  by_cases hG : S 4 0 0 = 0
  · refine ⟨σ, ?_, am_pi.rf hF, fun _ _ _ => rfl⟩
    rw [if_pos hG, s201]
    simp only [s201_0, s201_1, s201_2, s201_4, s201_7, s201_10, s201_11, s201_14, s201_15, s201_16, s201_17, s201_20, s201_23, s201_25, s201_26, s201_27, s201_30, s201_33, s201_35, s201_38, s201_39, s201_40, s201_41, s201_42, s201_45, am_pu_s, am_pu_n, va_rf_s, va_rf_n, Option.bind_some, true_or, or_true, eq_self, if_true, if_false, ite_self, ite_true, ite_false, ↓reduceIte, reduceCtorEq, Nat.reduceEqDiff, Nat.reduceAdd, Nat.reduceLT, Nat.reduceLeDiff, Nat.reduceMul, Nat.reduceSub, not_true_eq_false, not_false_eq_true, and_self, and_true, true_and, and_false, false_and, m124, bI_t b1, bI_t b2, nI_10, c3, hF, kd66, mR_G h, e0, hG]
  · rw [if_neg hG]
    obtain ⟨s, hs, rfl⟩ := i32_nn c3
    obtain ⟨n, hn, rfl⟩ := i32_nn (w := v) (fun q => c1 (Or.inl (Int32.lt_trans q (nI_lt (by decide) (by decide)))))
    obtain ⟨j, hj, rfl⟩ := i32_nn (w := x) (fun q => c4 (Or.inl q))
    have hn60 : n ≤ 60 := by
      by_cases q : n ≤ 60
      · exact q
      · exact absurd (Or.inr (nI_lt (show 60 < n by omega) hn)) c1
    have hj3 : j < 3 := by
      by_cases q : j < 3
      · exact q
      · exact absurd (Or.inr (nI_lt (show 2 < j by omega) hj)) c4
    obtain ⟨σ2, e2, hp2, k2⟩ := m200 (X := X) (d := d) h hO hn60 hs (by omega) hj3
    refine ⟨σ2, ?_, hp2, k2⟩
    rw [nI_cl (show s < 2147483648 by omega), nI_cl (show n < 2147483648 by omega), nI_cl (show j < 2147483648 by omega)]
    rw [s201]
    simp only [s201_0, s201_1, s201_2, s201_4, s201_7, s201_10, s201_11, s201_14, s201_15, s201_16, s201_17, s201_20, s201_23, s201_25, s201_26, s201_27, s201_30, s201_33, s201_35, s201_38, s201_39, s201_40, s201_41, s201_42, s201_45, am_pu_s, am_pu_n, va_rf_s, va_rf_n, Option.bind_some, true_or, or_true, eq_self, if_true, if_false, ite_self, ite_true, ite_false, ↓reduceIte, reduceCtorEq, Nat.reduceEqDiff, Nat.reduceAdd, Nat.reduceLT, Nat.reduceLeDiff, Nat.reduceMul, Nat.reduceSub, not_true_eq_false, not_false_eq_true, and_self, and_true, true_and, and_false, false_and, m124, bI_t b1, bI_t b2, nI_10, c3, hF, kd66, mR_G h, e0, hG, e2]
end FT
