/-! answers: pays, worn, shortest, as, higher, wind .. of both sides -/
def rPays (S : am_St) (v w : Int32) : Int32 := match tI S v, gI S w with
  | some b, some g => nI (sW (S 5 g 0) (S 0 b) (S 7 g 0) (S 1 b 0) - S 3 b g)
  | _, _ => -101
def rWorn (S : am_St) (v w : Int32) : Int32 := match tI S v, gI S w with
  | some b, some g => nI (S 3 b g)
  | _, _ => -101
def rShort (S : am_St) (v w : Int32) : Int32 := match tI S v, gI S w with
  | some b, some g => wSh (fun k => sW (S 5 g 0) (S 0 b) (S 7 g 0) k - S 3 b g) (S 6 g 0) 0 (S 1 b 0 + 1)
  | _, _ => -101
section TOP
variable {X : am_X} {d N : Nat} {σ : am_M} {S : am_St} {v w : Int32}
theorem c100 (h : cRep S σ) (hO : sOK N S) : ∃ σ', am_v X (d + 6) 100 [.ref (0 : Nat), .int v, .int w] σ = some (some (.int (rPays S v w)), σ') ∧ am_pr nsA σ σ' := by
  have hF := h.1
  unfold rPays
  rcases tI_c S v with ⟨b, hb, rfl, h0, e⟩ | e
  · rcases gI_c (sO_G hO) w with ⟨g, hg, hg4, rfl, eg⟩ | eg
    · have hwd := sO_Wd hO hg4
      obtain ⟨σ2, e2, hp2⟩ := m10 (X := X) (d := d) hF (w := S 7 g 0) (isTu8 hb) (cR_T h hb) (sO_N hO hb) (fun j hj => sO_B hO hb hj) (isGa8 hg4) hg4 (cR_no h hg4) (cR_K h hg4) (sO_K hO hg4) (by omega) (sO_W hO hb hg4)
      refine ⟨σ2, ?_, hp2⟩
      rw [s100]
      simp only [s100_0, s100_1, s100_4, s100_5, s100_8, s100_8n, s100_9, s100_10, s100_13, s100_14, s100_17, s100_17n, s100_19, s100_19n, s100_20n, s100_20, s100_23, s100_23n, s100_25n, s100_25, s100_28, s100_30, s100_31, s100_32, s100_35, s100_35n, s100_36, s100_36n, s100_38, s100_38n, s100_40, s100_43, s100_46, am_pu_s, am_pu_n, va_rf_s, va_rf_n, Option.bind_some, true_or, or_true, eq_self, if_true, if_false, ite_self, ite_true, ite_false, ↓reduceIte, reduceCtorEq, Nat.reduceEqDiff, Nat.reduceAdd, Nat.reduceLT, Nat.reduceLeDiff, Nat.reduceMul, Nat.reduceSub, not_true_eq_false, not_false_eq_true, and_self, and_true, true_and, and_false, false_and, hF, kd0, rr0_2, rr0_4, kd8, kd54, m76s h hO hb h0, m77s h hO hg hg4, kdG hF (isGa8 hg4), cR_Wd h hg4, e2, e, eg]
    · refine ⟨σ, ?_, am_pr.rf hF⟩
      rw [s100]
      simp only [s100_0, s100_1, s100_4, s100_5, s100_8, s100_8n, s100_9, s100_10, s100_13, s100_14, s100_17, s100_17n, s100_19, s100_19n, s100_20n, s100_20, s100_23, s100_23n, s100_25n, s100_25, s100_28, s100_30, s100_31, s100_32, s100_35, s100_35n, s100_36, s100_36n, s100_38, s100_38n, s100_40, s100_43, s100_46, am_pu_s, am_pu_n, va_rf_s, va_rf_n, Option.bind_some, true_or, or_true, eq_self, if_true, if_false, ite_self, ite_true, ite_false, ↓reduceIte, reduceCtorEq, Nat.reduceEqDiff, Nat.reduceAdd, Nat.reduceLT, Nat.reduceLeDiff, Nat.reduceMul, Nat.reduceSub, not_true_eq_false, not_false_eq_true, and_self, and_true, true_and, and_false, false_and, hF, kd0, rr0_2, rr0_4, kd8, kd54, m76s h hO hb h0, m77n h hO eg, e, eg]
  · refine ⟨σ, ?_, am_pr.rf hF⟩
    rw [s100]
    rcases gI_c (sO_G hO) w with ⟨g, hg, hg4, rfl, eg⟩ | eg
    · simp only [s100_0, s100_1, s100_4, s100_5, s100_8, s100_8n, s100_9, s100_10, s100_13, s100_14, s100_17, s100_17n, s100_19, s100_19n, s100_20n, s100_20, s100_23, s100_23n, s100_25n, s100_25, s100_28, s100_30, s100_31, s100_32, s100_35, s100_35n, s100_36, s100_36n, s100_38, s100_38n, s100_40, s100_43, s100_46, am_pu_s, am_pu_n, va_rf_s, va_rf_n, Option.bind_some, true_or, or_true, eq_self, if_true, if_false, ite_self, ite_true, ite_false, ↓reduceIte, reduceCtorEq, Nat.reduceEqDiff, Nat.reduceAdd, Nat.reduceLT, Nat.reduceLeDiff, Nat.reduceMul, Nat.reduceSub, not_true_eq_false, not_false_eq_true, and_self, and_true, true_and, and_false, false_and, hF, kd0, rr0_2, kd8, m76n h e, m77s h hO hg hg4, e]
    · simp only [s100_0, s100_1, s100_4, s100_5, s100_8, s100_8n, s100_9, s100_10, s100_13, s100_14, s100_17, s100_17n, s100_19, s100_19n, s100_20n, s100_20, s100_23, s100_23n, s100_25n, s100_25, s100_28, s100_30, s100_31, s100_32, s100_35, s100_35n, s100_36, s100_36n, s100_38, s100_38n, s100_40, s100_43, s100_46, am_pu_s, am_pu_n, va_rf_s, va_rf_n, Option.bind_some, true_or, or_true, eq_self, if_true, if_false, ite_self, ite_true, ite_false, ↓reduceIte, reduceCtorEq, Nat.reduceEqDiff, Nat.reduceAdd, Nat.reduceLT, Nat.reduceLeDiff, Nat.reduceMul, Nat.reduceSub, not_true_eq_false, not_false_eq_true, and_self, and_true, true_and, and_false, false_and, hF, kd0, rr0_2, kd8, m76n h e, m77n h hO eg, e]
theorem nI_10 : (nI 1 = nI 0) = False := by decide +kernel
theorem c180 (h : mRep S σ) (hO : sOK N S) : ∃ σ', am_v X (d + 7) 180 [.ref (66 : Nat), .int v, .int w] σ = some (some (.int (rPays S v w)), σ') ∧ am_pr nsA σ σ' := by
  have hF := h.1
  unfold rPays
  rcases tI_c S v with ⟨b, hb, rfl, h0, e⟩ | e
  · rcases gI_c (sO_G hO) w with ⟨g, hg, hg4, rfl, eg⟩ | eg
    · obtain ⟨σ2, e2, hp2⟩ := m176 (X := X) (d := d) h hO hb hg4
      refine ⟨σ2, ?_, hp2⟩
      rw [s180]
      simp only [s180_0, s180_1, s180_2, s180_5, s180_8, s180_9, s180_10, s180_13, s180_16, s180_17, s180_18, s180_19, s180_22, s180_25, s180_27, am_pu_s, am_pu_n, va_rf_s, va_rf_n, Option.bind_some, true_or, or_true, eq_self, if_true, if_false, ite_self, ite_true, ite_false, ↓reduceIte, reduceCtorEq, Nat.reduceEqDiff, Nat.reduceAdd, Nat.reduceLT, Nat.reduceLeDiff, Nat.reduceMul, Nat.reduceSub, not_true_eq_false, not_false_eq_true, and_self, and_true, true_and, and_false, false_and, hF, kd66, m152s h hO hb h0, m153s h hO hg, nI_10, e2, e, eg]
    · refine ⟨σ, ?_, am_pr.rf hF⟩
      rw [s180]
      simp only [s180_0, s180_1, s180_2, s180_5, s180_8, s180_9, s180_10, s180_13, s180_16, s180_17, s180_18, s180_19, s180_22, s180_25, s180_27, am_pu_s, am_pu_n, va_rf_s, va_rf_n, Option.bind_some, true_or, or_true, eq_self, if_true, if_false, ite_self, ite_true, ite_false, ↓reduceIte, reduceCtorEq, Nat.reduceEqDiff, Nat.reduceAdd, Nat.reduceLT, Nat.reduceLeDiff, Nat.reduceMul, Nat.reduceSub, not_true_eq_false, not_false_eq_true, and_self, and_true, true_and, and_false, false_and, hF, kd66, m152s h hO hb h0, m153n h hO eg, nI_10, e, eg]
  · refine ⟨σ, ?_, am_pr.rf hF⟩
    rw [s180]
    simp only [s180_0, s180_1, s180_2, s180_5, s180_8, s180_9, s180_10, s180_13, s180_16, s180_17, s180_18, s180_19, s180_22, s180_25, s180_27, am_pu_s, am_pu_n, va_rf_s, va_rf_n, Option.bind_some, true_or, or_true, eq_self, if_true, if_false, ite_self, ite_true, ite_false, ↓reduceIte, reduceCtorEq, Nat.reduceEqDiff, Nat.reduceAdd, Nat.reduceLT, Nat.reduceLeDiff, Nat.reduceMul, Nat.reduceSub, not_true_eq_false, not_false_eq_true, and_self, and_true, true_and, and_false, false_and, hF, kd66, m152n h e, e]
theorem c101 (h : cRep S σ) (hO : sOK N S) : am_v X (d + 2) 101 [.ref (0 : Nat), .int v, .int w] σ = some (some (.int (rWorn S v w)), σ) := by
  have hF := h.1
  unfold rWorn
  rcases tI_c S v with ⟨b, hb, rfl, h0, e⟩ | e
  · rcases gI_c (sO_G hO) w with ⟨g, hg, hg4, rfl, eg⟩ | eg
    · rw [s101]
      simp only [s101_0, s101_1, s101_4, s101_5, s101_8, s101_8n, s101_9, s101_10, s101_13, s101_14, s101_17, s101_17n, s101_19, s101_19n, s101_20n, s101_20, s101_23, s101_23n, s101_25n, s101_25, s101_28, s101_30, s101_31, s101_31n, s101_32, s101_32n, s101_34, s101_37, am_pu_s, am_pu_n, va_rf_s, va_rf_n, Option.bind_some, true_or, or_true, eq_self, if_true, if_false, ite_self, ite_true, ite_false, ↓reduceIte, reduceCtorEq, Nat.reduceEqDiff, Nat.reduceAdd, Nat.reduceLT, Nat.reduceLeDiff, Nat.reduceMul, Nat.reduceSub, not_true_eq_false, not_false_eq_true, and_self, and_true, true_and, and_false, false_and, hF, kd0, rr0_2, kd8, m76s h hO hb h0, m77s h hO hg hg4, kdT hF (isTu8 hb), m52 hF (isTu8 hb) (cR_T h hb) (isGa8 hg4) hg4 (cR_no h hg4), e, eg]
    · rw [s101]
      simp only [s101_0, s101_1, s101_4, s101_5, s101_8, s101_8n, s101_9, s101_10, s101_13, s101_14, s101_17, s101_17n, s101_19, s101_19n, s101_20n, s101_20, s101_23, s101_23n, s101_25n, s101_25, s101_28, s101_30, s101_31, s101_31n, s101_32, s101_32n, s101_34, s101_37, am_pu_s, am_pu_n, va_rf_s, va_rf_n, Option.bind_some, true_or, or_true, eq_self, if_true, if_false, ite_self, ite_true, ite_false, ↓reduceIte, reduceCtorEq, Nat.reduceEqDiff, Nat.reduceAdd, Nat.reduceLT, Nat.reduceLeDiff, Nat.reduceMul, Nat.reduceSub, not_true_eq_false, not_false_eq_true, and_self, and_true, true_and, and_false, false_and, hF, kd0, rr0_2, kd8, m76s h hO hb h0, m77n h hO eg, e, eg]
  · rw [s101]
    rcases gI_c (sO_G hO) w with ⟨g, hg, hg4, rfl, eg⟩ | eg
    · simp only [s101_0, s101_1, s101_4, s101_5, s101_8, s101_8n, s101_9, s101_10, s101_13, s101_14, s101_17, s101_17n, s101_19, s101_19n, s101_20n, s101_20, s101_23, s101_23n, s101_25n, s101_25, s101_28, s101_30, s101_31, s101_31n, s101_32, s101_32n, s101_34, s101_37, am_pu_s, am_pu_n, va_rf_s, va_rf_n, Option.bind_some, true_or, or_true, eq_self, if_true, if_false, ite_self, ite_true, ite_false, ↓reduceIte, reduceCtorEq, Nat.reduceEqDiff, Nat.reduceAdd, Nat.reduceLT, Nat.reduceLeDiff, Nat.reduceMul, Nat.reduceSub, not_true_eq_false, not_false_eq_true, and_self, and_true, true_and, and_false, false_and, hF, kd0, rr0_2, kd8, m76n h e, m77s h hO hg hg4, e]
    · simp only [s101_0, s101_1, s101_4, s101_5, s101_8, s101_8n, s101_9, s101_10, s101_13, s101_14, s101_17, s101_17n, s101_19, s101_19n, s101_20n, s101_20, s101_23, s101_23n, s101_25n, s101_25, s101_28, s101_30, s101_31, s101_31n, s101_32, s101_32n, s101_34, s101_37, am_pu_s, am_pu_n, va_rf_s, va_rf_n, Option.bind_some, true_or, or_true, eq_self, if_true, if_false, ite_self, ite_true, ite_false, ↓reduceIte, reduceCtorEq, Nat.reduceEqDiff, Nat.reduceAdd, Nat.reduceLT, Nat.reduceLeDiff, Nat.reduceMul, Nat.reduceSub, not_true_eq_false, not_false_eq_true, and_self, and_true, true_and, and_false, false_and, hF, kd0, rr0_2, kd8, m76n h e, m77n h hO eg, e]
theorem c181 (h : mRep S σ) (hO : sOK N S) : am_v X (d + 3) 181 [.ref (66 : Nat), .int v, .int w] σ = some (some (.int (rWorn S v w)), σ) := by
  have hF := h.1
  unfold rWorn
  rcases tI_c S v with ⟨b, hb, rfl, h0, e⟩ | e
  · rcases gI_c (sO_G hO) w with ⟨g, hg, hg4, rfl, eg⟩ | eg
    · rw [s181]
      simp only [s181_0, s181_1, s181_2, s181_5, s181_8, s181_9, s181_10, s181_13, s181_16, s181_17, s181_20, s181_21, s181_22, s181_23, s181_24, s181_25, s181_26, s181_29, s181_31, am_pu_s, am_pu_n, va_rf_s, va_rf_n, Option.bind_some, true_or, or_true, eq_self, if_true, if_false, ite_self, ite_true, ite_false, ↓reduceIte, reduceCtorEq, Nat.reduceEqDiff, Nat.reduceAdd, Nat.reduceLT, Nat.reduceLeDiff, Nat.reduceMul, Nat.reduceSub, not_true_eq_false, not_false_eq_true, and_self, and_true, true_and, and_false, false_and, hF, kd66, rr66_11, m152s h hO hb h0, m153s h hO hg, nI_10, nI_2W, ix75 hF (show 4 * b + g < 16 by omega), nI_cl (show 4 * b + g < 2147483648 by omega), mR_W h hb hg4, e, eg]
    · rw [s181]
      simp only [s181_0, s181_1, s181_2, s181_5, s181_8, s181_9, s181_10, s181_13, s181_16, s181_17, s181_20, s181_21, s181_22, s181_23, s181_24, s181_25, s181_26, s181_29, s181_31, am_pu_s, am_pu_n, va_rf_s, va_rf_n, Option.bind_some, true_or, or_true, eq_self, if_true, if_false, ite_self, ite_true, ite_false, ↓reduceIte, reduceCtorEq, Nat.reduceEqDiff, Nat.reduceAdd, Nat.reduceLT, Nat.reduceLeDiff, Nat.reduceMul, Nat.reduceSub, not_true_eq_false, not_false_eq_true, and_self, and_true, true_and, and_false, false_and, hF, kd66, m152s h hO hb h0, m153n h hO eg, nI_10, e, eg]
  · rw [s181]
    simp only [s181_0, s181_1, s181_2, s181_5, s181_8, s181_9, s181_10, s181_13, s181_16, s181_17, s181_20, s181_21, s181_22, s181_23, s181_24, s181_25, s181_26, s181_29, s181_31, am_pu_s, am_pu_n, va_rf_s, va_rf_n, Option.bind_some, true_or, or_true, eq_self, if_true, if_false, ite_self, ite_true, ite_false, ↓reduceIte, reduceCtorEq, Nat.reduceEqDiff, Nat.reduceAdd, Nat.reduceLT, Nat.reduceLeDiff, Nat.reduceMul, Nat.reduceSub, not_true_eq_false, not_false_eq_true, and_self, and_true, true_and, and_false, false_and, hF, kd66, m152n h e, e]
theorem c105 (h : cRep S σ) (hO : sOK N S) : ∃ σ', am_v X (d + 6) 105 [.ref (0 : Nat), .int v, .int w] σ = some (some (.int (rShort S v w)), σ') ∧ am_pr nsA σ σ' := by
  have hF := h.1
  unfold rShort
  rcases tI_c S v with ⟨b, hb, rfl, h0, e⟩ | e
  · rcases gI_c (sO_G hO) w with ⟨g, hg, hg4, rfl, eg⟩ | eg
    · have hwd := sO_Wd hO hg4
      obtain ⟨σ2, e2, hp2⟩ := m11 (X := X) (d := d) hF (isTu8 hb) (cR_T h hb) (sO_N hO hb) (fun j hj => sO_B hO hb hj) (isGa8 hg4) hg4 (cR_no h hg4) (cR_K h hg4) (cR_Tl h hg4) (cR_Wd h hg4) (sO_K hO hg4) (by omega) (sO_W hO hb hg4) (sO_T hO hg4)
      refine ⟨σ2, ?_, hp2⟩
      rw [s105]
      simp only [s105_0, s105_1, s105_4, s105_5, s105_8, s105_8n, s105_9, s105_10, s105_13, s105_14, s105_17, s105_17n, s105_19, s105_19n, s105_20n, s105_20, s105_23, s105_23n, s105_25n, s105_25, s105_28, s105_30, s105_31, s105_32, s105_35, s105_35n, s105_36, s105_36n, s105_38, s105_41, am_pu_s, am_pu_n, va_rf_s, va_rf_n, Option.bind_some, true_or, or_true, eq_self, if_true, if_false, ite_self, ite_true, ite_false, ↓reduceIte, reduceCtorEq, Nat.reduceEqDiff, Nat.reduceAdd, Nat.reduceLT, Nat.reduceLeDiff, Nat.reduceMul, Nat.reduceSub, not_true_eq_false, not_false_eq_true, and_self, and_true, true_and, and_false, false_and, hF, kd0, rr0_2, rr0_4, kd8, kd54, m76s h hO hb h0, m77s h hO hg hg4, e2, e, eg]
    · refine ⟨σ, ?_, am_pr.rf hF⟩
      rw [s105]
      simp only [s105_0, s105_1, s105_4, s105_5, s105_8, s105_8n, s105_9, s105_10, s105_13, s105_14, s105_17, s105_17n, s105_19, s105_19n, s105_20n, s105_20, s105_23, s105_23n, s105_25n, s105_25, s105_28, s105_30, s105_31, s105_32, s105_35, s105_35n, s105_36, s105_36n, s105_38, s105_41, am_pu_s, am_pu_n, va_rf_s, va_rf_n, Option.bind_some, true_or, or_true, eq_self, if_true, if_false, ite_self, ite_true, ite_false, ↓reduceIte, reduceCtorEq, Nat.reduceEqDiff, Nat.reduceAdd, Nat.reduceLT, Nat.reduceLeDiff, Nat.reduceMul, Nat.reduceSub, not_true_eq_false, not_false_eq_true, and_self, and_true, true_and, and_false, false_and, hF, kd0, rr0_2, rr0_4, kd8, kd54, m76s h hO hb h0, m77n h hO eg, e, eg]
  · refine ⟨σ, ?_, am_pr.rf hF⟩
    rw [s105]
    rcases gI_c (sO_G hO) w with ⟨g, hg, hg4, rfl, eg⟩ | eg
    · simp only [s105_0, s105_1, s105_4, s105_5, s105_8, s105_8n, s105_9, s105_10, s105_13, s105_14, s105_17, s105_17n, s105_19, s105_19n, s105_20n, s105_20, s105_23, s105_23n, s105_25n, s105_25, s105_28, s105_30, s105_31, s105_32, s105_35, s105_35n, s105_36, s105_36n, s105_38, s105_41, am_pu_s, am_pu_n, va_rf_s, va_rf_n, Option.bind_some, true_or, or_true, eq_self, if_true, if_false, ite_self, ite_true, ite_false, ↓reduceIte, reduceCtorEq, Nat.reduceEqDiff, Nat.reduceAdd, Nat.reduceLT, Nat.reduceLeDiff, Nat.reduceMul, Nat.reduceSub, not_true_eq_false, not_false_eq_true, and_self, and_true, true_and, and_false, false_and, hF, kd0, rr0_2, kd8, m76n h e, m77s h hO hg hg4, e]
    · simp only [s105_0, s105_1, s105_4, s105_5, s105_8, s105_8n, s105_9, s105_10, s105_13, s105_14, s105_17, s105_17n, s105_19, s105_19n, s105_20n, s105_20, s105_23, s105_23n, s105_25n, s105_25, s105_28, s105_30, s105_31, s105_32, s105_35, s105_35n, s105_36, s105_36n, s105_38, s105_41, am_pu_s, am_pu_n, va_rf_s, va_rf_n, Option.bind_some, true_or, or_true, eq_self, if_true, if_false, ite_self, ite_true, ite_false, ↓reduceIte, reduceCtorEq, Nat.reduceEqDiff, Nat.reduceAdd, Nat.reduceLT, Nat.reduceLeDiff, Nat.reduceMul, Nat.reduceSub, not_true_eq_false, not_false_eq_true, and_self, and_true, true_and, and_false, false_and, hF, kd0, rr0_2, kd8, m76n h e, m77n h hO eg, e]
theorem c186 (h : mRep S σ) (hO : sOK N S) : ∃ σ', am_v X (d + 7) 186 [.ref (66 : Nat), .int v, .int w] σ = some (some (.int (rShort S v w)), σ') ∧ am_pr nsA σ σ' := by
  have hF := h.1
  unfold rShort
  rcases tI_c S v with ⟨b, hb, rfl, h0, e⟩ | e
  · rcases gI_c (sO_G hO) w with ⟨g, hg, hg4, rfl, eg⟩ | eg
    · obtain ⟨σ2, e2, hp2⟩ := m185 (X := X) (d := d) h hO hb hg4
      refine ⟨σ2, ?_, hp2⟩
      rw [s186]
      simp only [s186_0, s186_1, s186_2, s186_5, s186_8, s186_9, s186_10, s186_13, s186_16, s186_17, s186_18, s186_19, s186_22, s186_25, s186_27, am_pu_s, am_pu_n, va_rf_s, va_rf_n, Option.bind_some, true_or, or_true, eq_self, if_true, if_false, ite_self, ite_true, ite_false, ↓reduceIte, reduceCtorEq, Nat.reduceEqDiff, Nat.reduceAdd, Nat.reduceLT, Nat.reduceLeDiff, Nat.reduceMul, Nat.reduceSub, not_true_eq_false, not_false_eq_true, and_self, and_true, true_and, and_false, false_and, hF, kd66, m152s h hO hb h0, m153s h hO hg, nI_10, e2, e, eg]
    · refine ⟨σ, ?_, am_pr.rf hF⟩
      rw [s186]
      simp only [s186_0, s186_1, s186_2, s186_5, s186_8, s186_9, s186_10, s186_13, s186_16, s186_17, s186_18, s186_19, s186_22, s186_25, s186_27, am_pu_s, am_pu_n, va_rf_s, va_rf_n, Option.bind_some, true_or, or_true, eq_self, if_true, if_false, ite_self, ite_true, ite_false, ↓reduceIte, reduceCtorEq, Nat.reduceEqDiff, Nat.reduceAdd, Nat.reduceLT, Nat.reduceLeDiff, Nat.reduceMul, Nat.reduceSub, not_true_eq_false, not_false_eq_true, and_self, and_true, true_and, and_false, false_and, hF, kd66, m152s h hO hb h0, m153n h hO eg, nI_10, e, eg]
  · refine ⟨σ, ?_, am_pr.rf hF⟩
    rw [s186]
    simp only [s186_0, s186_1, s186_2, s186_5, s186_8, s186_9, s186_10, s186_13, s186_16, s186_17, s186_18, s186_19, s186_22, s186_25, s186_27, am_pu_s, am_pu_n, va_rf_s, va_rf_n, Option.bind_some, true_or, or_true, eq_self, if_true, if_false, ite_self, ite_true, ite_false, ↓reduceIte, reduceCtorEq, Nat.reduceEqDiff, Nat.reduceAdd, Nat.reduceLT, Nat.reduceLeDiff, Nat.reduceMul, Nat.reduceSub, not_true_eq_false, not_false_eq_true, and_self, and_true, true_and, and_false, false_and, hF, kd66, m152n h e, e]
/-! as -/
def wIs (k : Nat) (w : Int32) : Prop := w = nI 0 ∨ w = nI k ∨ (w = nI 3 ∧ k = 4)
def rAs (S : am_St) (v w : Int32) : Int32 := match gI S v with
  | some g => if w < nI 0 ∨ nI 4 < w then -102 else if w = nI 0 ∨ w = nI (S 5 g 0) ∨ (w = nI 3 ∧ S 5 g 0 = 4) then nI g else -1
  | none => -101
theorem m7 {g k : Nat} (hF : am_F σ) (hg : g < 4) (h1 : am_I σ (27 + g) 1 = nI k) (hk : k ≤ 4) : am_v X (d + 1) 7 [.ref (27 + g), .int w] σ = some (some (.int (bI (w = nI 0 ∨ w = nI k ∨ (w = nI 3 ∧ k = 4)))), σ) := by
  have e4 : (nI k = nI 4) = (k = 4) := nI_EQ (by omega) (by decide)
  have hd := kdG hF (isGa8 hg)
  rw [s7]
  by_cases h0 : w = nI 0
  · have hb : w = nI 0 ∨ w = nI k ∨ (w = nI 3 ∧ k = 4) := Or.inl h0
    rw [bI_t hb]
    simp only [s7_0, s7_1, s7_4, s7_5, s7_6, s7_9, s7_12, s7_13, s7_14, s7_17, s7_18, s7_21, s7_22, s7_25, s7_26, s7_29, s7_30, am_pu_s, am_pu_n, va_rf_s, va_rf_n, Option.bind_some, true_or, or_true, eq_self, if_true, if_false, ite_self, ite_true, ite_false, ↓reduceIte, reduceCtorEq, Nat.reduceEqDiff, Nat.reduceAdd, Nat.reduceLT, Nat.reduceLeDiff, Nat.reduceMul, Nat.reduceSub, not_true_eq_false, not_false_eq_true, and_self, and_true, true_and, and_false, false_and, h0]
  · by_cases h2 : w = nI k
    · have hb : w = nI 0 ∨ w = nI k ∨ (w = nI 3 ∧ k = 4) := Or.inr (Or.inl h2)
      rw [bI_t hb]
      simp only [s7_0, s7_1, s7_4, s7_5, s7_6, s7_9, s7_12, s7_13, s7_14, s7_17, s7_18, s7_21, s7_22, s7_25, s7_26, s7_29, s7_30, am_pu_s, am_pu_n, va_rf_s, va_rf_n, Option.bind_some, true_or, or_true, eq_self, if_true, if_false, ite_self, ite_true, ite_false, ↓reduceIte, reduceCtorEq, Nat.reduceEqDiff, Nat.reduceAdd, Nat.reduceLT, Nat.reduceLeDiff, Nat.reduceMul, Nat.reduceSub, not_true_eq_false, not_false_eq_true, and_self, and_true, true_and, and_false, false_and, h0, hd, h1, h2]
    · by_cases h3 : w = nI 3
      · by_cases h5 : k = 4
        · have hb : w = nI 0 ∨ w = nI k ∨ (w = nI 3 ∧ k = 4) := Or.inr (Or.inr ⟨h3, h5⟩)
          rw [bI_t hb]
          subst h3
          simp only [s7_0, s7_1, s7_4, s7_5, s7_6, s7_9, s7_12, s7_13, s7_14, s7_17, s7_18, s7_21, s7_22, s7_25, s7_26, s7_29, s7_30, am_pu_s, am_pu_n, va_rf_s, va_rf_n, Option.bind_some, true_or, or_true, eq_self, if_true, if_false, ite_self, ite_true, ite_false, ↓reduceIte, reduceCtorEq, Nat.reduceEqDiff, Nat.reduceAdd, Nat.reduceLT, Nat.reduceLeDiff, Nat.reduceMul, Nat.reduceSub, not_true_eq_false, not_false_eq_true, and_self, and_true, true_and, and_false, false_and, h0, hd, h1, h2, e4, h5]
        · have hb : ¬ (w = nI 0 ∨ w = nI k ∨ (w = nI 3 ∧ k = 4)) := by
            intro q; rcases q with q | q | q
            · exact h0 q
            · exact h2 q
            · exact h5 q.2
          rw [bI_f hb]
          subst h3
          simp only [s7_0, s7_1, s7_4, s7_5, s7_6, s7_9, s7_12, s7_13, s7_14, s7_17, s7_18, s7_21, s7_22, s7_25, s7_26, s7_29, s7_30, am_pu_s, am_pu_n, va_rf_s, va_rf_n, Option.bind_some, true_or, or_true, eq_self, if_true, if_false, ite_self, ite_true, ite_false, ↓reduceIte, reduceCtorEq, Nat.reduceEqDiff, Nat.reduceAdd, Nat.reduceLT, Nat.reduceLeDiff, Nat.reduceMul, Nat.reduceSub, not_true_eq_false, not_false_eq_true, and_self, and_true, true_and, and_false, false_and, h0, hd, h1, h2, e4, h5]
      · have hb : ¬ (w = nI 0 ∨ w = nI k ∨ (w = nI 3 ∧ k = 4)) := by
          intro q; rcases q with q | q | q
          · exact h0 q
          · exact h2 q
          · exact h3 q.1
        rw [bI_f hb]
        simp only [s7_0, s7_1, s7_4, s7_5, s7_6, s7_9, s7_12, s7_13, s7_14, s7_17, s7_18, s7_21, s7_22, s7_25, s7_26, s7_29, s7_30, am_pu_s, am_pu_n, va_rf_s, va_rf_n, Option.bind_some, true_or, or_true, eq_self, if_true, if_false, ite_self, ite_true, ite_false, ↓reduceIte, reduceCtorEq, Nat.reduceEqDiff, Nat.reduceAdd, Nat.reduceLT, Nat.reduceLeDiff, Nat.reduceMul, Nat.reduceSub, not_true_eq_false, not_false_eq_true, and_self, and_true, true_and, and_false, false_and, h0, hd, h1, h2, h3]
theorem wthin {a b : Nat} (hb : b < 2147483648) (_ : a = 0) {w : Int32} : (nI 0 ≤ w ∧ w ≤ nI b) ↔ ¬ (w < nI 0 ∨ nI b < w) := by
  constructor
  · rintro ⟨h1, h2⟩ (h | h)
    · exact Int32.not_lt.mpr h1 h
    · exact Int32.not_lt.mpr h2 h
  · intro h
    exact ⟨Int32.not_lt.mp fun q => h (Or.inl q), Int32.not_lt.mp fun q => h (Or.inr q)⟩
theorem nI_lt_s {k : Nat} (hk : k < 2147483647) (w : Int32) : (w < nI (k + 1)) ↔ ¬ (nI k < w) := by
  constructor
  · intro h1 h2
    rcases pk_ix w (show k + 1 < 2 ^ 31 by omega) with h3 | h3 | ⟨j, hj, rfl⟩
    · have : w < nI k := by
        have h4 : nI 0 ≤ nI k := nI_le (by omega) (by omega)
        exact Int32.lt_of_lt_of_le (show w < nI 0 from h3) h4
      exact Int32.lt_irrefl (Int32.lt_trans h2 this)
    · exact Int32.not_lt.mpr h3 h1
    · have := (nI_ltI (show k < 2 ^ 31 by omega) (show j < 2 ^ 31 by omega)).mp h2
      omega
  · intro h
    rcases pk_ix w (show k + 1 < 2 ^ 31 by omega) with h3 | h3 | ⟨j, hj, rfl⟩
    · exact Int32.lt_of_lt_of_le (show w < nI 0 from h3) (nI_le (by omega) (by omega))
    · exact absurd (Int32.lt_of_lt_of_le (nI_lt (show k < k + 1 by omega) (by omega)) h3) h
    · exact nI_lt hj (by omega)
theorem c99 (h : cRep S σ) (hO : sOK N S) : am_v X (d + 2) 99 [.ref (0 : Nat), .int v, .int w] σ = some (some (.int (rAs S v w)), σ) := by
  have hF := h.1
  unfold rAs
  rw [s99]
  rcases gI_c (sO_G hO) v with ⟨g, hg, hg4, rfl, eg⟩ | eg
  · by_cases h1 : w < nI 0
    · simp only [s99_0, s99_1, s99_4, s99_5, s99_8, s99_8n, s99_9, s99_9n, s99_10n, s99_10, s99_13, s99_15, s99_16, s99_17, s99_20, s99_21, s99_22, s99_25, s99_27, s99_28, s99_28n, s99_29, s99_30, s99_33, s99_36, s99_37, s99_40, s99_41, am_pu_s, am_pu_n, va_rf_s, va_rf_n, Option.bind_some, true_or, or_true, eq_self, if_true, if_false, ite_self, ite_true, ite_false, ↓reduceIte, reduceCtorEq, Nat.reduceEqDiff, Nat.reduceAdd, Nat.reduceLT, Nat.reduceLeDiff, Nat.reduceMul, Nat.reduceSub, not_true_eq_false, not_false_eq_true, and_self, and_true, true_and, and_false, false_and, hF, kd0, rr0_2, kd8, m77s h hO hg hg4, eg, h1]
    · by_cases h2 : nI 4 < w
      · have h3 : ¬ w < nI 5 := fun q => (nI_lt_s (k := 4) (by decide) w).mp q h2
        simp only [s99_0, s99_1, s99_4, s99_5, s99_8, s99_8n, s99_9, s99_9n, s99_10n, s99_10, s99_13, s99_15, s99_16, s99_17, s99_20, s99_21, s99_22, s99_25, s99_27, s99_28, s99_28n, s99_29, s99_30, s99_33, s99_36, s99_37, s99_40, s99_41, am_pu_s, am_pu_n, va_rf_s, va_rf_n, Option.bind_some, true_or, or_true, eq_self, if_true, if_false, ite_self, ite_true, ite_false, ↓reduceIte, reduceCtorEq, Nat.reduceEqDiff, Nat.reduceAdd, Nat.reduceLT, Nat.reduceLeDiff, Nat.reduceMul, Nat.reduceSub, not_true_eq_false, not_false_eq_true, and_self, and_true, true_and, and_false, false_and, hF, kd0, rr0_2, kd8, m77s h hO hg hg4, eg, h1, h2, h3]
      · have h3 : w < nI 5 := (nI_lt_s (k := 4) (by decide) w).mpr h2
        by_cases h4 : w = nI 0 ∨ w = nI (S 5 g 0) ∨ (w = nI 3 ∧ S 5 g 0 = 4)
        · have m := m7 (X := X) (d := d) hF (w := w) hg4 (cR_K h hg4) (sO_K hO hg4)
          rw [bI_t h4] at m
          rw [eg]
          dsimp only
          rw [if_neg (by intro q; rcases q with q | q; exact h1 q; exact h2 q), if_pos h4]
          simp only [s99_0, s99_1, s99_4, s99_5, s99_8, s99_8n, s99_9, s99_9n, s99_10n, s99_10, s99_13, s99_15, s99_16, s99_17, s99_20, s99_21, s99_22, s99_25, s99_27, s99_28, s99_28n, s99_29, s99_30, s99_33, s99_36, s99_37, s99_40, s99_41, am_pu_s, am_pu_n, va_rf_s, va_rf_n, Option.bind_some, true_or, or_true, eq_self, if_true, if_false, ite_self, ite_true, ite_false, ↓reduceIte, reduceCtorEq, Nat.reduceEqDiff, Nat.reduceAdd, Nat.reduceLT, Nat.reduceLeDiff, Nat.reduceMul, Nat.reduceSub, not_true_eq_false, not_false_eq_true, and_self, and_true, true_and, and_false, false_and, hF, kd0, rr0_2, kd8, m77s h hO hg hg4, h1, h3, kdG hF (isGa8 hg4), m, nI_10]
        · have m := m7 (X := X) (d := d) hF (w := w) hg4 (cR_K h hg4) (sO_K hO hg4)
          rw [bI_f h4] at m
          rw [eg]
          dsimp only
          rw [if_neg (by intro q; rcases q with q | q; exact h1 q; exact h2 q), if_neg h4]
          simp only [s99_0, s99_1, s99_4, s99_5, s99_8, s99_8n, s99_9, s99_9n, s99_10n, s99_10, s99_13, s99_15, s99_16, s99_17, s99_20, s99_21, s99_22, s99_25, s99_27, s99_28, s99_28n, s99_29, s99_30, s99_33, s99_36, s99_37, s99_40, s99_41, am_pu_s, am_pu_n, va_rf_s, va_rf_n, Option.bind_some, true_or, or_true, eq_self, if_true, if_false, ite_self, ite_true, ite_false, ↓reduceIte, reduceCtorEq, Nat.reduceEqDiff, Nat.reduceAdd, Nat.reduceLT, Nat.reduceLeDiff, Nat.reduceMul, Nat.reduceSub, not_true_eq_false, not_false_eq_true, and_self, and_true, true_and, and_false, false_and, hF, kd0, rr0_2, kd8, m77s h hO hg hg4, h1, h3, kdG hF (isGa8 hg4), m]
  · simp only [s99_0, s99_1, s99_4, s99_5, s99_8, s99_8n, s99_9, s99_9n, s99_10n, s99_10, s99_13, s99_15, s99_16, s99_17, s99_20, s99_21, s99_22, s99_25, s99_27, s99_28, s99_28n, s99_29, s99_30, s99_33, s99_36, s99_37, s99_40, s99_41, am_pu_s, am_pu_n, va_rf_s, va_rf_n, Option.bind_some, true_or, or_true, eq_self, if_true, if_false, ite_self, ite_true, ite_false, ↓reduceIte, reduceCtorEq, Nat.reduceEqDiff, Nat.reduceAdd, Nat.reduceLT, Nat.reduceLeDiff, Nat.reduceMul, Nat.reduceSub, not_true_eq_false, not_false_eq_true, and_self, and_true, true_and, and_false, false_and, hF, kd0, rr0_2, kd8, m77n h hO eg, eg]
theorem c179 (h : mRep S σ) (hO : sOK N S) : am_v X (d + 3) 179 [.ref (66 : Nat), .int v, .int w] σ = some (some (.int (rAs S v w)), σ) := by
  have hF := h.1
  unfold rAs
  rw [s179]
  rcases gI_c (sO_G hO) v with ⟨g, hg, hg4, rfl, eg⟩ | eg
  · by_cases h1 : w < nI 0 ∨ nI 4 < w
    · have hb : ¬ (nI 0 ≤ w ∧ w ≤ nI 4) := fun q => (wthin (by decide) rfl).mp q h1
      rw [eg]
      simp only [s179_0, s179_1, s179_2, s179_5, s179_8, s179_10, s179_11, s179_12, s179_13, s179_14, s179_17, s179_20, s179_22, s179_23, s179_24, s179_27, s179_28, s179_29, s179_30, s179_31, s179_34, s179_35, s179_36, s179_39, s179_40, s179_41, s179_44, s179_45, s179_46, s179_49, s179_50, s179_53, s179_54, am_pu_s, am_pu_n, va_rf_s, va_rf_n, Option.bind_some, true_or, or_true, eq_self, if_true, if_false, ite_self, ite_true, ite_false, ↓reduceIte, reduceCtorEq, Nat.reduceEqDiff, Nat.reduceAdd, Nat.reduceLT, Nat.reduceLeDiff, Nat.reduceMul, Nat.reduceSub, not_true_eq_false, not_false_eq_true, and_self, and_true, true_and, and_false, false_and, hF, kd66, m153s h hO hg, nI_10, m124, bI_f hb, h1]
    · have hb : (nI 0 ≤ w ∧ w ≤ nI 4) := (wthin (by decide) rfl).mpr h1
      rw [eg]
      have hk := sO_K hO hg4
      have e4 : (nI (S 5 g 0) = nI 4) = (S 5 g 0 = 4) := nI_EQ (by omega) (by decide)
      simp only [s179_0, s179_1, s179_2, s179_5, s179_8, s179_10, s179_11, s179_12, s179_13, s179_14, s179_17, s179_20, s179_22, s179_23, s179_24, s179_27, s179_28, s179_29, s179_30, s179_31, s179_34, s179_35, s179_36, s179_39, s179_40, s179_41, s179_44, s179_45, s179_46, s179_49, s179_50, s179_53, s179_54, am_pu_s, am_pu_n, va_rf_s, va_rf_n, Option.bind_some, true_or, or_true, eq_self, if_true, if_false, ite_self, ite_true, ite_false, ↓reduceIte, reduceCtorEq, Nat.reduceEqDiff, Nat.reduceAdd, Nat.reduceLT, Nat.reduceLeDiff, Nat.reduceMul, Nat.reduceSub, not_true_eq_false, not_false_eq_true, and_self, and_true, true_and, and_false, false_and, hF, kd66, rr66_6, m153s h hO hg, nI_10, m124, bI_t hb, h1, ix70 hF hg4, nI_cl (show g < 2147483648 by omega), mR_K h hg4, e4]
      by_cases h2 : w = nI 0
      · simp only [h2, am_pu_s, am_pu_n, va_rf_s, va_rf_n, Option.bind_some, true_or, or_true, eq_self, if_true, if_false, ite_self, ite_true, ite_false, ↓reduceIte, reduceCtorEq, Nat.reduceEqDiff, Nat.reduceAdd, Nat.reduceLT, Nat.reduceLeDiff, Nat.reduceMul, Nat.reduceSub, not_true_eq_false, not_false_eq_true, and_self, and_true, true_and, and_false, false_and]
      · by_cases h3 : nI (S 5 g 0) = w
        · simp only [h2, h3, am_pu_s, am_pu_n, va_rf_s, va_rf_n, Option.bind_some, true_or, or_true, eq_self, if_true, if_false, ite_self, ite_true, ite_false, ↓reduceIte, reduceCtorEq, Nat.reduceEqDiff, Nat.reduceAdd, Nat.reduceLT, Nat.reduceLeDiff, Nat.reduceMul, Nat.reduceSub, not_true_eq_false, not_false_eq_true, and_self, and_true, true_and, and_false, false_and]
        · have h3' : ¬ w = nI (S 5 g 0) := fun q => h3 q.symm
          by_cases h5 : w = nI 3
          · by_cases h6 : S 5 g 0 = 4
            · simp only [h2, h3, h3', h5, h6, or_false, am_pu_s, am_pu_n, va_rf_s, va_rf_n, Option.bind_some, true_or, or_true, eq_self, if_true, if_false, ite_self, ite_true, ite_false, ↓reduceIte, reduceCtorEq, Nat.reduceEqDiff, Nat.reduceAdd, Nat.reduceLT, Nat.reduceLeDiff, Nat.reduceMul, Nat.reduceSub, not_true_eq_false, not_false_eq_true, and_self, and_true, true_and, and_false, false_and]
            · subst h5
              simp only [h2, h3, h3', h6, or_false, am_pu_s, am_pu_n, va_rf_s, va_rf_n, Option.bind_some, true_or, or_true, eq_self, if_true, if_false, ite_self, ite_true, ite_false, ↓reduceIte, reduceCtorEq, Nat.reduceEqDiff, Nat.reduceAdd, Nat.reduceLT, Nat.reduceLeDiff, Nat.reduceMul, Nat.reduceSub, not_true_eq_false, not_false_eq_true, and_self, and_true, true_and, and_false, false_and]
          · simp only [h2, h3, h3', h5, or_false, am_pu_s, am_pu_n, va_rf_s, va_rf_n, Option.bind_some, true_or, or_true, eq_self, if_true, if_false, ite_self, ite_true, ite_false, ↓reduceIte, reduceCtorEq, Nat.reduceEqDiff, Nat.reduceAdd, Nat.reduceLT, Nat.reduceLeDiff, Nat.reduceMul, Nat.reduceSub, not_true_eq_false, not_false_eq_true, and_self, and_true, true_and, and_false, false_and]
  · simp only [s179_0, s179_1, s179_2, s179_5, s179_8, s179_10, s179_11, s179_12, s179_13, s179_14, s179_17, s179_20, s179_22, s179_23, s179_24, s179_27, s179_28, s179_29, s179_30, s179_31, s179_34, s179_35, s179_36, s179_39, s179_40, s179_41, s179_44, s179_45, s179_46, s179_49, s179_50, s179_53, s179_54, am_pu_s, am_pu_n, va_rf_s, va_rf_n, Option.bind_some, true_or, or_true, eq_self, if_true, if_false, ite_self, ite_true, ite_false, ↓reduceIte, reduceCtorEq, Nat.reduceEqDiff, Nat.reduceAdd, Nat.reduceLT, Nat.reduceLeDiff, Nat.reduceMul, Nat.reduceSub, not_true_eq_false, not_false_eq_true, and_self, and_true, true_and, and_false, false_and, hF, kd66, m153n h hO eg, eg]
/-! higher -/
def sHB (P : Nat → Nat) : Nat → Nat × Nat
  | 0 => (0, P 0)
  | k + 1 => if (sHB P k).2 < P (k + 1) then (k + 1, P (k + 1)) else sHB P k
def rHigher (S : am_St) (v w : Int32) : Int32 := match tI S v with
  | some b => if w < nI 0 ∨ nI 1 < w then -102 else if S 4 0 0 = 0 then -103 else if w = nI 0 then nI (sHB (sPs S b) 6).1 else nI (sHB (sPs S b) 6).2
  | none => -101
theorem sHB_le (P : Nat → Nat) (h : ∀ k, P k ≤ 4) : ∀ k, (sHB P k).2 ≤ 4
  | 0 => h 0
  | k + 1 => by
    unfold sHB
    split
    · exact h (k + 1)
    · exact sHB_le P h k
theorem nI_ltm1 {n : Nat} (h : n < 2147483648) : (nI n ≤ (-1 : Int32)) = False := by
  apply propext
  constructor
  · intro q
    have := Int32.le_trans (nI_le (show 0 ≤ n by omega) h) q
    exact absurd this (by decide +kernel)
  · exact False.elim
theorem c106 (h : cRep S σ) (hO : sOK N S) : ∃ σ', am_v X (d + 7) 106 [.ref (0 : Nat), .int v, .int w] σ = some (some (.int (rHigher S v w)), σ') ∧ am_pr nsA σ σ' := by
  have hF := h.1
  have hG := sO_G hO
  unfold rHigher
  rcases tI_c S v with ⟨b, hb, rfl, h0, e⟩ | e
  · rw [e]
    dsimp only
    by_cases h1 : w < nI 0
    · refine ⟨σ, ?_, am_pr.rf hF⟩
      rw [s106]
      simp only [s106_0, s106_1, s106_4, s106_5, s106_8, s106_8n, s106_9, s106_9n, s106_10n, s106_10, s106_13, s106_15, s106_16, s106_17, s106_20, s106_21, s106_22, s106_25, s106_27, s106_28, s106_29, s106_32, s106_35, s106_38, s106_40, s106_41, s106_42, s106_44, s106_45, s106_47, s106_48, s106_50, s106_52, s106_54, s106_57, s106_58, s106_58n, s106_59, s106_61, s106_64, s106_66, s106_68, s106_70, s106_73, s106_75, s106_77, s106_79, s106_81, s106_84, s106_87, s106_88, s106_91, s106_93, s106_96, s106_98, am_pu_s, am_pu_n, va_rf_s, va_rf_n, Option.bind_some, true_or, or_true, eq_self, if_true, if_false, ite_self, ite_true, ite_false, ↓reduceIte, reduceCtorEq, Nat.reduceEqDiff, Nat.reduceAdd, Nat.reduceLT, Nat.reduceLeDiff, Nat.reduceMul, Nat.reduceSub, not_true_eq_false, not_false_eq_true, and_self, and_true, true_and, and_false, false_and, hF, kd0, rr0_2, kd8, m76s h hO hb h0, h1]
    · by_cases h2 : nI 1 < w
      · have h3 : ¬ w ≤ nI 1 := Int32.not_le.mpr h2
        refine ⟨σ, ?_, am_pr.rf hF⟩
        rw [s106]
        simp only [s106_0, s106_1, s106_4, s106_5, s106_8, s106_8n, s106_9, s106_9n, s106_10n, s106_10, s106_13, s106_15, s106_16, s106_17, s106_20, s106_21, s106_22, s106_25, s106_27, am_pu_s, am_pu_n, va_rf_s, va_rf_n, Option.bind_some, true_or, or_true, eq_self, if_true, if_false, ite_self, ite_true, ite_false, ↓reduceIte, reduceCtorEq, Nat.reduceEqDiff, Nat.reduceAdd, Nat.reduceLT, Nat.reduceLeDiff, Nat.reduceMul, Nat.reduceSub, not_true_eq_false, not_false_eq_true, and_self, and_true, true_and, and_false, false_and, hF, kd0, rr0_2, kd8, m76s h hO hb h0, h1, h2, h3]
      · have h3 : w ≤ nI 1 := Int32.not_lt.mp h2
        have e0 : (nI (S 4 0 0) = nI 0) = (S 4 0 0 = 0) := nI_EQ (by omega) (by decide)
        rw [if_neg (by intro q; rcases q with q | q; exact h1 q; exact h2 q)]
        by_cases hG0 : S 4 0 0 = 0
        · refine ⟨σ, ?_, am_pr.rf hF⟩
          rw [s106, if_pos hG0]
          simp only [s106_0, s106_1, s106_4, s106_5, s106_8, s106_8n, s106_9, s106_9n, s106_10n, s106_10, s106_13, s106_15, s106_16, s106_17, s106_20, s106_21, s106_22, s106_25, s106_27, s106_28, s106_29, s106_32, s106_35, s106_38, s106_40, am_pu_s, am_pu_n, va_rf_s, va_rf_n, Option.bind_some, true_or, or_true, eq_self, if_true, if_false, ite_self, ite_true, ite_false, ↓reduceIte, reduceCtorEq, Nat.reduceEqDiff, Nat.reduceAdd, Nat.reduceLT, Nat.reduceLeDiff, Nat.reduceMul, Nat.reduceSub, not_true_eq_false, not_false_eq_true, and_self, and_true, true_and, and_false, false_and, hF, kd0, rr0_2, kd8, m76s h hO hb h0, h1, h3, cR_G h, e0, hG0]
        · rw [if_neg hG0]
          have loop : ∀ m k σ1 l7, k + m = 6 → am_pr nsA σ σ1 → ∃ σ', am_w X (d + 6) 106 50 [some (.ref (0 : Nat)), some (.int (nI b)), some (.int w), some (.ref (15 + 3 * b)), some (.int (nI (sHB (sPs S b) k).1)), some (.int (nI (sHB (sPs S b) k).2)), some (.int (nI (k + 1))), l7] [] σ1 = some (some (.int (if w = nI 0 then nI (sHB (sPs S b) 6).1 else nI (sHB (sPs S b) 6).2)), σ') ∧ am_pr nsA σ σ' := by
            intro m
            induction m with
            | zero =>
              intro k σ1 l7 hk hp1
              have hk : k = 6 := by omega
              subst hk
              refine ⟨σ1, ?_, hp1⟩
              rw [s106_50]
              by_cases hw : w = nI 0 <;> simp only [s106_0, s106_1, s106_4, s106_5, s106_8, s106_8n, s106_9, s106_9n, s106_10n, s106_10, s106_13, s106_15, s106_16, s106_17, s106_20, s106_21, s106_22, s106_25, s106_27, s106_28, s106_29, s106_32, s106_35, s106_38, s106_40, s106_41, s106_42, s106_44, s106_45, s106_47, s106_48, s106_52, s106_54, s106_57, s106_58, s106_58n, s106_59, s106_61, s106_64, s106_66, s106_68, s106_70, s106_73, s106_75, s106_77, s106_79, s106_81, s106_84, s106_87, s106_88, s106_91, s106_93, s106_96, s106_98, am_pu_s, am_pu_n, va_rf_s, va_rf_n, Option.bind_some, true_or, or_true, eq_self, if_true, if_false, ite_self, ite_true, ite_false, ↓reduceIte, reduceCtorEq, Nat.reduceEqDiff, Nat.reduceAdd, Nat.reduceLT, Nat.reduceLeDiff, Nat.reduceMul, Nat.reduceSub, not_true_eq_false, not_false_eq_true, and_self, and_true, true_and, and_false, false_and, nI_LE, hw]
            | succ m ih =>
              intro k σ1 l7 hk hp1
              have h5 := h.prA hp1
              obtain ⟨σ2, e2, hp2⟩ := m117 (X := X) (d := d) h5 hO hb (show k + 1 < 50 by omega)
              have h6 : ¬ nI 7 ≤ nI (k + 1) := nI_ge (by omega) (by decide)
              have l1 := sHB_le (sPs S b) (fun y => sPs_le hO) k
              have l2 : sPs S b (k + 1) ≤ 4 := sPs_le hO
              have e7 : (nI (sPs S b (k + 1)) ≤ nI (sHB (sPs S b) k).2) = (sPs S b (k + 1) ≤ (sHB (sPs S b) k).2) := nI_LE (by omega) (by omega)
              rw [s106_50]
              by_cases h9 : (sHB (sPs S b) k).2 < sPs S b (k + 1)
              · have h10 : ¬ sPs S b (k + 1) ≤ (sHB (sPs S b) k).2 := by omega
                simp only [s106_0, s106_1, s106_4, s106_5, s106_8, s106_8n, s106_9, s106_9n, s106_10n, s106_10, s106_13, s106_15, s106_16, s106_17, s106_20, s106_21, s106_22, s106_25, s106_27, s106_28, s106_29, s106_32, s106_35, s106_38, s106_40, s106_41, s106_42, s106_44, s106_45, s106_47, s106_48, s106_52, s106_54, s106_57, s106_58, s106_58n, s106_59, s106_61, s106_64, s106_66, s106_68, s106_70, s106_73, s106_75, s106_77, s106_79, s106_81, s106_84, s106_87, s106_88, s106_91, s106_93, s106_96, s106_98, am_pu_s, am_pu_n, va_rf_s, va_rf_n, Option.bind_some, true_or, or_true, eq_self, if_true, if_false, ite_self, ite_true, ite_false, ↓reduceIte, reduceCtorEq, Nat.reduceEqDiff, Nat.reduceAdd, Nat.reduceLT, Nat.reduceLeDiff, Nat.reduceMul, Nat.reduceSub, not_true_eq_false, not_false_eq_true, and_self, and_true, true_and, and_false, false_and, h5.1, kd0, h6, e2, e7, h10, nI_add]
                have := ih (k + 1) σ2 (some (.int (nI (sPs S b (k + 1))))) (by omega) (hp1.tr hp2)
                rw [sHB, if_pos h9] at this
                exact this
              · have h10 : sPs S b (k + 1) ≤ (sHB (sPs S b) k).2 := by omega
                simp only [s106_0, s106_1, s106_4, s106_5, s106_8, s106_8n, s106_9, s106_9n, s106_10n, s106_10, s106_13, s106_15, s106_16, s106_17, s106_20, s106_21, s106_22, s106_25, s106_27, s106_28, s106_29, s106_32, s106_35, s106_38, s106_40, s106_41, s106_42, s106_44, s106_45, s106_47, s106_48, s106_52, s106_54, s106_57, s106_58, s106_58n, s106_59, s106_61, s106_64, s106_66, s106_68, s106_70, s106_73, s106_75, s106_77, s106_79, s106_81, s106_84, s106_87, s106_88, s106_91, s106_93, s106_96, s106_98, am_pu_s, am_pu_n, va_rf_s, va_rf_n, Option.bind_some, true_or, or_true, eq_self, if_true, if_false, ite_self, ite_true, ite_false, ↓reduceIte, reduceCtorEq, Nat.reduceEqDiff, Nat.reduceAdd, Nat.reduceLT, Nat.reduceLeDiff, Nat.reduceMul, Nat.reduceSub, not_true_eq_false, not_false_eq_true, and_self, and_true, true_and, and_false, false_and, h5.1, kd0, h6, e2, e7, h10, nI_add]
                have := ih (k + 1) σ2 (some (.int (nI (sPs S b (k + 1))))) (by omega) (hp1.tr hp2)
                rw [sHB, if_neg h9] at this
                exact this
          obtain ⟨σ2, e2, hp2⟩ := m117 (X := X) (d := d) h hO hb (show 0 < 50 by omega)
          obtain ⟨σ3, e3, hp3⟩ := loop 6 0 σ2 (some (.int (nI (sPs S b 0)))) (by omega) hp2
          have l2 : sPs S b 0 ≤ 4 := sPs_le hO
          refine ⟨σ3, ?_, hp3⟩
          rw [s106]
          simp only [s106_0, s106_1, s106_4, s106_5, s106_8, s106_8n, s106_9, s106_9n, s106_10n, s106_10, s106_13, s106_15, s106_16, s106_17, s106_20, s106_21, s106_22, s106_25, s106_27, s106_28, s106_29, s106_32, s106_35, s106_38, s106_40, s106_41, s106_42, s106_44, s106_45, s106_47, s106_48, s106_52, s106_54, s106_57, s106_58, s106_58n, s106_59, s106_61, s106_64, s106_66, s106_68, s106_70, s106_73, s106_75, s106_77, s106_79, s106_81, s106_84, s106_87, s106_88, s106_91, s106_93, s106_96, s106_98, am_pu_s, am_pu_n, va_rf_s, va_rf_n, Option.bind_some, true_or, or_true, eq_self, if_true, if_false, ite_self, ite_true, ite_false, ↓reduceIte, reduceCtorEq, Nat.reduceEqDiff, Nat.reduceAdd, Nat.reduceLT, Nat.reduceLeDiff, Nat.reduceMul, Nat.reduceSub, not_true_eq_false, not_false_eq_true, and_self, and_true, true_and, and_false, false_and, hF, kd0, rr0_2, kd8, m76s h hO hb h0, h1, h3, cR_G h, e0, hG0]
          rw [s106_50]
          simp only [s106_0, s106_1, s106_4, s106_5, s106_8, s106_8n, s106_9, s106_9n, s106_10n, s106_10, s106_13, s106_15, s106_16, s106_17, s106_20, s106_21, s106_22, s106_25, s106_27, s106_28, s106_29, s106_32, s106_35, s106_38, s106_40, s106_41, s106_42, s106_44, s106_45, s106_47, s106_48, s106_52, s106_54, s106_57, s106_58, s106_58n, s106_59, s106_61, s106_64, s106_66, s106_68, s106_70, s106_73, s106_75, s106_77, s106_79, s106_81, s106_84, s106_87, s106_88, s106_91, s106_93, s106_96, s106_98, am_pu_s, am_pu_n, va_rf_s, va_rf_n, Option.bind_some, true_or, or_true, eq_self, if_true, if_false, ite_self, ite_true, ite_false, ↓reduceIte, reduceCtorEq, Nat.reduceEqDiff, Nat.reduceAdd, Nat.reduceLT, Nat.reduceLeDiff, Nat.reduceMul, Nat.reduceSub, not_true_eq_false, not_false_eq_true, and_self, and_true, true_and, and_false, false_and, hF, kd0, nI_LE, e2, nI_ltm1 (show sPs S b 0 < 2147483648 by omega), nI_add]
          exact e3
  · refine ⟨σ, ?_, am_pr.rf hF⟩
    rw [s106]
    simp only [s106_0, s106_1, s106_4, s106_5, s106_8, s106_8n, s106_9, s106_9n, s106_10n, s106_10, s106_13, s106_15, s106_16, s106_17, s106_20, s106_21, s106_22, s106_25, s106_27, s106_28, s106_29, s106_32, s106_35, s106_38, s106_40, s106_41, s106_42, s106_44, s106_45, s106_47, s106_48, s106_50, s106_52, s106_54, s106_57, s106_58, s106_58n, s106_59, s106_61, s106_64, s106_66, s106_68, s106_70, s106_73, s106_75, s106_77, s106_79, s106_81, s106_84, s106_87, s106_88, s106_91, s106_93, s106_96, s106_98, am_pu_s, am_pu_n, va_rf_s, va_rf_n, Option.bind_some, true_or, or_true, eq_self, if_true, if_false, ite_self, ite_true, ite_false, ↓reduceIte, reduceCtorEq, Nat.reduceEqDiff, Nat.reduceAdd, Nat.reduceLT, Nat.reduceLeDiff, Nat.reduceMul, Nat.reduceSub, not_true_eq_false, not_false_eq_true, and_self, and_true, true_and, and_false, false_and, hF, kd0, rr0_2, kd8, m76n h e, e]
theorem c188 (h : mRep S σ) (hO : sOK N S) : ∃ σ', am_v X (d + 8) 188 [.ref (66 : Nat), .int v, .int w] σ = some (some (.int (rHigher S v w)), σ') ∧ am_pr nsA σ σ' := by
  have hF := h.1
  have hG := sO_G hO
  unfold rHigher
  rcases tI_c S v with ⟨b, hb, rfl, h0, e⟩ | e
  · rw [e]
    dsimp only
    by_cases h1 : w < nI 0 ∨ nI 1 < w
    · have hb' : ¬ (nI 0 ≤ w ∧ w ≤ nI 1) := fun q => (wthin (by decide) rfl).mp q h1
      refine ⟨σ, ?_, am_pr.rf hF⟩
      rw [s188]
      simp only [s188_0, s188_1, s188_2, s188_5, s188_8, s188_10, s188_11, s188_12, s188_13, s188_14, s188_17, s188_20, s188_22, s188_23, s188_24, s188_27, s188_30, s188_32, s188_35, s188_36, s188_37, s188_38, s188_41, am_pu_s, am_pu_n, va_rf_s, va_rf_n, Option.bind_some, true_or, or_true, eq_self, if_true, if_false, ite_self, ite_true, ite_false, ↓reduceIte, reduceCtorEq, Nat.reduceEqDiff, Nat.reduceAdd, Nat.reduceLT, Nat.reduceLeDiff, Nat.reduceMul, Nat.reduceSub, not_true_eq_false, not_false_eq_true, and_self, and_true, true_and, and_false, false_and, hF, kd66, m152s h hO hb h0, nI_10, m124, bI_f hb', h1]
    · have hb' : (nI 0 ≤ w ∧ w ≤ nI 1) := (wthin (by decide) rfl).mpr h1
      have e0 : (nI (S 4 0 0) = nI 0) = (S 4 0 0 = 0) := nI_EQ (by omega) (by decide)
      rw [if_neg h1]
      by_cases hG0 : S 4 0 0 = 0
      · refine ⟨σ, ?_, am_pr.rf hF⟩
        rw [s188, if_pos hG0]
        simp only [s188_0, s188_1, s188_2, s188_5, s188_8, s188_10, s188_11, s188_12, s188_13, s188_14, s188_17, s188_20, s188_22, s188_23, s188_24, s188_27, s188_30, s188_32, s188_35, s188_36, s188_37, s188_38, s188_41, am_pu_s, am_pu_n, va_rf_s, va_rf_n, Option.bind_some, true_or, or_true, eq_self, if_true, if_false, ite_self, ite_true, ite_false, ↓reduceIte, reduceCtorEq, Nat.reduceEqDiff, Nat.reduceAdd, Nat.reduceLT, Nat.reduceLeDiff, Nat.reduceMul, Nat.reduceSub, not_true_eq_false, not_false_eq_true, and_self, and_true, true_and, and_false, false_and, hF, kd66, m152s h hO hb h0, nI_10, m124, bI_t hb', mR_G h, e0, hG0]
      · rw [if_neg hG0]
        have loop : ∀ m k σ1 l6, k + m = 6 → am_pr nsA σ σ1 → ∃ σ', am_w X (d + 6) 187 8 [some (.ref (66 : Nat)), some (.int (nI b)), some (.int w), some (.int (nI (sHB (sPs S b) k).1)), some (.int (nI (sHB (sPs S b) k).2)), some (.int (nI (k + 1))), l6] [] σ1 = some (some (.int (if w = nI 0 then nI (sHB (sPs S b) 6).1 else nI (sHB (sPs S b) 6).2)), σ') ∧ am_pr nsA σ σ' := by
          intro m
          induction m with
          | zero =>
            intro k σ1 l6 hk hp1
            have hk : k = 6 := by omega
            subst hk
            refine ⟨σ1, ?_, hp1⟩
            rw [s187_8]
            by_cases hw : w = nI 0 <;> simp only [s187_0, s187_1, s187_2, s187_3, s187_5, s187_6, s187_10, s187_12, s187_15, s187_16, s187_17, s187_19, s187_22, s187_24, s187_26, s187_28, s187_31, s187_33, s187_36, s187_37, s187_38, s187_40, s187_42, s187_45, s187_47, s187_50, s187_52, s187_54, s187_57, s187_60, s187_61, s187_64, s187_65, s187_68, s187_70, am_pu_s, am_pu_n, va_rf_s, va_rf_n, Option.bind_some, true_or, or_true, eq_self, if_true, if_false, ite_self, ite_true, ite_false, ↓reduceIte, reduceCtorEq, Nat.reduceEqDiff, Nat.reduceAdd, Nat.reduceLT, Nat.reduceLeDiff, Nat.reduceMul, Nat.reduceSub, not_true_eq_false, not_false_eq_true, and_self, and_true, true_and, and_false, false_and, nI_LE, hw]
          | succ m ih =>
            intro k σ1 l6 hk hp1
            have h5 := h.prA hp1
            obtain ⟨σ2, e2, hp2⟩ := m161 (X := X) (d := d) h5 hO hb (show k + 1 < 50 by omega)
            have h6 : ¬ nI 7 ≤ nI (k + 1) := nI_ge (by omega) (by decide)
            have l1 := sHB_le (sPs S b) (fun y => sPs_le hO) k
            have l2 : sPs S b (k + 1) ≤ 4 := sPs_le hO
            have e7 : (nI (sPs S b (k + 1)) ≤ nI (sHB (sPs S b) k).2) = (sPs S b (k + 1) ≤ (sHB (sPs S b) k).2) := nI_LE (by omega) (by omega)
            rw [s187_8]
            by_cases h9 : (sHB (sPs S b) k).2 < sPs S b (k + 1)
            · have h10 : ¬ sPs S b (k + 1) ≤ (sHB (sPs S b) k).2 := by omega
              simp only [s187_0, s187_1, s187_2, s187_3, s187_5, s187_6, s187_10, s187_12, s187_15, s187_16, s187_17, s187_19, s187_22, s187_24, s187_26, s187_28, s187_31, s187_33, s187_36, s187_37, s187_38, s187_40, s187_42, s187_45, s187_47, s187_50, s187_52, s187_54, s187_57, s187_60, s187_61, s187_64, s187_65, s187_68, s187_70, am_pu_s, am_pu_n, va_rf_s, va_rf_n, Option.bind_some, true_or, or_true, eq_self, if_true, if_false, ite_self, ite_true, ite_false, ↓reduceIte, reduceCtorEq, Nat.reduceEqDiff, Nat.reduceAdd, Nat.reduceLT, Nat.reduceLeDiff, Nat.reduceMul, Nat.reduceSub, not_true_eq_false, not_false_eq_true, and_self, and_true, true_and, and_false, false_and, h5.1, kd66, h6, e2, e7, h10, nI_add]
              have := ih (k + 1) σ2 (some (.int (nI (sPs S b (k + 1))))) (by omega) (hp1.tr hp2)
              rw [sHB, if_pos h9] at this
              exact this
            · have h10 : sPs S b (k + 1) ≤ (sHB (sPs S b) k).2 := by omega
              simp only [s187_0, s187_1, s187_2, s187_3, s187_5, s187_6, s187_10, s187_12, s187_15, s187_16, s187_17, s187_19, s187_22, s187_24, s187_26, s187_28, s187_31, s187_33, s187_36, s187_37, s187_38, s187_40, s187_42, s187_45, s187_47, s187_50, s187_52, s187_54, s187_57, s187_60, s187_61, s187_64, s187_65, s187_68, s187_70, am_pu_s, am_pu_n, va_rf_s, va_rf_n, Option.bind_some, true_or, or_true, eq_self, if_true, if_false, ite_self, ite_true, ite_false, ↓reduceIte, reduceCtorEq, Nat.reduceEqDiff, Nat.reduceAdd, Nat.reduceLT, Nat.reduceLeDiff, Nat.reduceMul, Nat.reduceSub, not_true_eq_false, not_false_eq_true, and_self, and_true, true_and, and_false, false_and, h5.1, kd66, h6, e2, e7, h10, nI_add]
              have := ih (k + 1) σ2 (some (.int (nI (sPs S b (k + 1))))) (by omega) (hp1.tr hp2)
              rw [sHB, if_neg h9] at this
              exact this
        obtain ⟨σ2, e2, hp2⟩ := m161 (X := X) (d := d) h hO hb (show 0 < 50 by omega)
        obtain ⟨σ3, e3, hp3⟩ := loop 6 0 σ2 (some (.int (nI (sPs S b 0)))) (by omega) hp2
        have l2 : sPs S b 0 ≤ 4 := sPs_le hO
        have e187 : am_v X (d + 7) 187 [.ref (66 : Nat), .int (nI b), .int w] σ = some (some (.int (if w = nI 0 then nI (sHB (sPs S b) 6).1 else nI (sHB (sPs S b) 6).2)), σ3) := by
          rw [s187]
          simp only [s187_0, s187_1, s187_2, s187_3, s187_5, s187_6, s187_10, s187_12, s187_15, s187_16, s187_17, s187_19, s187_22, s187_24, s187_26, s187_28, s187_31, s187_33, s187_36, s187_37, s187_38, s187_40, s187_42, s187_45, s187_47, s187_50, s187_52, s187_54, s187_57, s187_60, s187_61, s187_64, s187_65, s187_68, s187_70, am_pu_s, am_pu_n, va_rf_s, va_rf_n, Option.bind_some, true_or, or_true, eq_self, if_true, if_false, ite_self, ite_true, ite_false, ↓reduceIte, reduceCtorEq, Nat.reduceEqDiff, Nat.reduceAdd, Nat.reduceLT, Nat.reduceLeDiff, Nat.reduceMul, Nat.reduceSub, not_true_eq_false, not_false_eq_true, and_self, and_true, true_and, and_false, false_and]
          rw [s187_8]
          simp only [s187_0, s187_1, s187_2, s187_3, s187_5, s187_6, s187_10, s187_12, s187_15, s187_16, s187_17, s187_19, s187_22, s187_24, s187_26, s187_28, s187_31, s187_33, s187_36, s187_37, s187_38, s187_40, s187_42, s187_45, s187_47, s187_50, s187_52, s187_54, s187_57, s187_60, s187_61, s187_64, s187_65, s187_68, s187_70, am_pu_s, am_pu_n, va_rf_s, va_rf_n, Option.bind_some, true_or, or_true, eq_self, if_true, if_false, ite_self, ite_true, ite_false, ↓reduceIte, reduceCtorEq, Nat.reduceEqDiff, Nat.reduceAdd, Nat.reduceLT, Nat.reduceLeDiff, Nat.reduceMul, Nat.reduceSub, not_true_eq_false, not_false_eq_true, and_self, and_true, true_and, and_false, false_and, hF, kd66, nI_LE, e2, nI_ltm1 (show sPs S b 0 < 2147483648 by omega), nI_add]
          exact e3
        refine ⟨σ3, ?_, hp3⟩
        rw [s188]
        simp only [s188_0, s188_1, s188_2, s188_5, s188_8, s188_10, s188_11, s188_12, s188_13, s188_14, s188_17, s188_20, s188_22, s188_23, s188_24, s188_27, s188_30, s188_32, s188_35, s188_36, s188_37, s188_38, s188_41, am_pu_s, am_pu_n, va_rf_s, va_rf_n, Option.bind_some, true_or, or_true, eq_self, if_true, if_false, ite_self, ite_true, ite_false, ↓reduceIte, reduceCtorEq, Nat.reduceEqDiff, Nat.reduceAdd, Nat.reduceLT, Nat.reduceLeDiff, Nat.reduceMul, Nat.reduceSub, not_true_eq_false, not_false_eq_true, and_self, and_true, true_and, and_false, false_and, hF, kd66, m152s h hO hb h0, nI_10, m124, bI_t hb', mR_G h, e0, hG0, e187]
  · refine ⟨σ, ?_, am_pr.rf hF⟩
    rw [s188]
    simp only [s188_0, s188_1, s188_2, s188_5, s188_8, s188_10, s188_11, s188_12, s188_13, s188_14, s188_17, s188_20, s188_22, s188_23, s188_24, s188_27, s188_30, s188_32, s188_35, s188_36, s188_37, s188_38, s188_41, am_pu_s, am_pu_n, va_rf_s, va_rf_n, Option.bind_some, true_or, or_true, eq_self, if_true, if_false, ite_self, ite_true, ite_false, ↓reduceIte, reduceCtorEq, Nat.reduceEqDiff, Nat.reduceAdd, Nat.reduceLT, Nat.reduceLeDiff, Nat.reduceMul, Nat.reduceSub, not_true_eq_false, not_false_eq_true, and_self, and_true, true_and, and_false, false_and, hF, kd66, m152n h e, e]
end TOP
