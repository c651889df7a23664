/-! alike -/
section AK
variable {X : am_X} {d N : Nat} {σ : am_M} {S : am_St} {v w x : Int32}
theorem wth2 {w : Int32} : (w < nI 0 ∨ nI 1 < w) ∨ ((¬ w < nI 0 ∧ ¬ nI 1 < w) ∧ ∃ j, j < 2 ∧ w = nI j) := by
  rcases pk_n w 2 (by decide) with h1 | ⟨j, hj, rfl⟩
  · left
    rcases h1 with h1 | h1
    · exact Or.inl h1
    · exact Or.inr (Int32.lt_of_lt_of_le (nI_lt (show 1 < 2 by decide) (by decide)) h1)
  · exact Or.inr ⟨⟨nI_pos (by omega), nI_nlt (by omega) (by decide)⟩, j, hj, rfl⟩
theorem wth2n {w : Int32} (h : w < nI 0 ∨ nI 1 < w) : ¬ (w = nI 0 ∨ w = nI 1) := by
  intro q
  rcases q with rfl | rfl
  · rcases h with h | h
    · exact nI_pos (by decide) h
    · exact nI_nlt (show 0 ≤ 1 by decide) (by decide) h
  · rcases h with h | h
    · exact nI_pos (by decide) h
    · exact nI_nlt (show 1 ≤ 1 by decide) (by decide) h
theorem c96 (h : cRep S σ) (hO : sOK N S) : ∃ r σ', am_v X (d + 3) 96 [.ref (0 : Nat), .int v, .int w, .int x] σ = some (some (.int r), σ') ∧ am_pr nsA σ σ' ∧ isAl S v w x r := by
  have hF := h.1
  unfold isAl
  rcases tI_c S v with ⟨b, hb, rfl, h0, e⟩ | e
  · rcases tI_c S w with ⟨g, hg, rfl, hg0, eg⟩ | eg
    · rw [e, eg]
      dsimp only
      rcases wth2 (w := x) with h1 | ⟨⟨h1, h2⟩, j, hj, rfl⟩
      · refine ⟨-102, σ, ?_, am_pr.rf hF, by rw [if_neg (wth2n h1)]⟩
        rw [s96]
        by_cases h2 : x < nI 0
        · simp only [s96_0, s96_1, s96_4, s96_5, s96_8, s96_8n, s96_10, s96_11, s96_14, s96_15, s96_18, s96_18n, s96_20, s96_20n, s96_22n, s96_22, s96_25, s96_25n, s96_27n, s96_27, s96_30, s96_32, s96_33, s96_34, s96_37, s96_38, s96_39, s96_42, s96_44, s96_45, s96_46, s96_49, s96_49n, s96_51, s96_51n, s96_53, s96_56, s96_57, s96_60, s96_61, s96_64, s96_67, s96_70, s96_71, s96_74, s96_77, am_pu_s, am_pu_n, va_rf_s, va_rf_n, Option.bind_some, true_or, or_true, eq_self, if_true, if_false, ite_self, ite_true, ite_false, ↓reduceIte, reduceCtorEq, Nat.reduceEqDiff, Nat.reduceAdd, Nat.reduceLT, Nat.reduceLeDiff, Nat.reduceMul, Nat.reduceSub, not_true_eq_false, not_false_eq_true, and_self, and_true, true_and, and_false, false_and, hF, kd0, rr0_2, kd8, m76s h hO hb h0, m76s h hO hg hg0, h2]
        · have h3 : ¬ x ≤ nI 1 := Int32.not_le.mpr (h1.resolve_left h2)
          simp only [s96_0, s96_1, s96_4, s96_5, s96_8, s96_8n, s96_10, s96_11, s96_14, s96_15, s96_18, s96_18n, s96_20, s96_20n, s96_22n, s96_22, s96_25, s96_25n, s96_27n, s96_27, s96_30, s96_32, s96_33, s96_34, s96_37, s96_38, s96_39, s96_42, s96_44, s96_45, s96_46, s96_49, s96_49n, s96_51, s96_51n, s96_53, s96_56, s96_57, s96_60, s96_61, s96_64, s96_67, s96_70, s96_71, s96_74, s96_77, am_pu_s, am_pu_n, va_rf_s, va_rf_n, Option.bind_some, true_or, or_true, eq_self, if_true, if_false, ite_self, ite_true, ite_false, ↓reduceIte, reduceCtorEq, Nat.reduceEqDiff, Nat.reduceAdd, Nat.reduceLT, Nat.reduceLeDiff, Nat.reduceMul, Nat.reduceSub, not_true_eq_false, not_false_eq_true, and_self, and_true, true_and, and_false, false_and, hF, kd0, rr0_2, kd8, m76s h hO hb h0, m76s h hO hg hg0, h2, h3]
      · obtain ⟨σ2, L, t, e2, hp2, p1, p2, p3⟩ := m18 (X := X) (d := d) h hO hb hg
        have h3 : nI j ≤ nI 1 := nI_le (by omega) (by decide)
        have hx : nI j = nI 0 ∨ nI j = nI 1 := by
          have : j = 0 ∨ j = 1 := by omega
          rcases this with rfl | rfl
          · exact Or.inl rfl
          · exact Or.inr rfl
        have e0 : (nI j = nI 0) = (j = 0) := nI_EQ (by omega) (by decide)
        refine ⟨if j = 0 then nI L else wM t, σ2, ?_, hp2, by
          rw [if_pos hx]
          refine ⟨L, t, p1, ?_⟩
          by_cases hj0 : j = 0
          · rw [if_pos hj0, if_pos (by rw [hj0])]
          · rw [if_neg hj0, if_neg (fun q => hj0 (e0.mp q))]⟩
        rw [s96]
        by_cases hj0 : j = 0
        · subst hj0
          simp only [s96_0, s96_1, s96_4, s96_5, s96_8, s96_8n, s96_10, s96_11, s96_14, s96_15, s96_18, s96_18n, s96_20, s96_20n, s96_22n, s96_22, s96_25, s96_25n, s96_27n, s96_27, s96_30, s96_32, s96_33, s96_34, s96_37, s96_38, s96_39, s96_42, s96_44, s96_45, s96_46, s96_49, s96_49n, s96_51, s96_51n, s96_53, s96_56, s96_57, s96_60, s96_61, s96_64, s96_67, s96_70, s96_71, s96_74, s96_77, am_pu_s, am_pu_n, va_rf_s, va_rf_n, Option.bind_some, true_or, or_true, eq_self, if_true, if_false, ite_self, ite_true, ite_false, ↓reduceIte, reduceCtorEq, Nat.reduceEqDiff, Nat.reduceAdd, Nat.reduceLT, Nat.reduceLeDiff, Nat.reduceMul, Nat.reduceSub, not_true_eq_false, not_false_eq_true, and_self, and_true, true_and, and_false, false_and, hF, hp2.1, kd0, rr0_2, rr0_5, kd8, kd55, m76s h hO hb h0, m76s h hO hg hg0, h1, h3, e2, p2, p3]
        · simp only [s96_0, s96_1, s96_4, s96_5, s96_8, s96_8n, s96_10, s96_11, s96_14, s96_15, s96_18, s96_18n, s96_20, s96_20n, s96_22n, s96_22, s96_25, s96_25n, s96_27n, s96_27, s96_30, s96_32, s96_33, s96_34, s96_37, s96_38, s96_39, s96_42, s96_44, s96_45, s96_46, s96_49, s96_49n, s96_51, s96_51n, s96_53, s96_56, s96_57, s96_60, s96_61, s96_64, s96_67, s96_70, s96_71, s96_74, s96_77, am_pu_s, am_pu_n, va_rf_s, va_rf_n, Option.bind_some, true_or, or_true, eq_self, if_true, if_false, ite_self, ite_true, ite_false, ↓reduceIte, reduceCtorEq, Nat.reduceEqDiff, Nat.reduceAdd, Nat.reduceLT, Nat.reduceLeDiff, Nat.reduceMul, Nat.reduceSub, not_true_eq_false, not_false_eq_true, and_self, and_true, true_and, and_false, false_and, hF, hp2.1, kd0, rr0_2, rr0_5, kd8, kd55, m76s h hO hb h0, m76s h hO hg hg0, h1, h3, e0, hj0, e2, p2, p3]
    · refine ⟨-101, σ, ?_, am_pr.rf hF, by rw [e, eg]⟩
      rw [s96]
      simp only [s96_0, s96_1, s96_4, s96_5, s96_8, s96_8n, s96_10, s96_11, s96_14, s96_15, s96_18, s96_18n, s96_20, s96_20n, s96_22n, s96_22, s96_25, s96_25n, s96_27n, s96_27, s96_30, s96_32, s96_33, s96_34, s96_37, s96_38, s96_39, s96_42, s96_44, s96_45, s96_46, s96_49, s96_49n, s96_51, s96_51n, s96_53, s96_56, s96_57, s96_60, s96_61, s96_64, s96_67, s96_70, s96_71, s96_74, s96_77, am_pu_s, am_pu_n, va_rf_s, va_rf_n, Option.bind_some, true_or, or_true, eq_self, if_true, if_false, ite_self, ite_true, ite_false, ↓reduceIte, reduceCtorEq, Nat.reduceEqDiff, Nat.reduceAdd, Nat.reduceLT, Nat.reduceLeDiff, Nat.reduceMul, Nat.reduceSub, not_true_eq_false, not_false_eq_true, and_self, and_true, true_and, and_false, false_and, hF, kd0, rr0_2, kd8, m76s h hO hb h0, m76n h eg]
  · refine ⟨-101, σ, ?_, am_pr.rf hF, by rw [e]⟩
    rw [s96]
    rcases tI_c S w with ⟨g, hg, rfl, hg0, eg⟩ | eg
    · simp only [s96_0, s96_1, s96_4, s96_5, s96_8, s96_8n, s96_10, s96_11, s96_14, s96_15, s96_18, s96_18n, s96_20, s96_20n, s96_22n, s96_22, s96_25, s96_25n, s96_27n, s96_27, s96_30, s96_32, s96_33, s96_34, s96_37, s96_38, s96_39, s96_42, s96_44, s96_45, s96_46, s96_49, s96_49n, s96_51, s96_51n, s96_53, s96_56, s96_57, s96_60, s96_61, s96_64, s96_67, s96_70, s96_71, s96_74, s96_77, am_pu_s, am_pu_n, va_rf_s, va_rf_n, Option.bind_some, true_or, or_true, eq_self, if_true, if_false, ite_self, ite_true, ite_false, ↓reduceIte, reduceCtorEq, Nat.reduceEqDiff, Nat.reduceAdd, Nat.reduceLT, Nat.reduceLeDiff, Nat.reduceMul, Nat.reduceSub, not_true_eq_false, not_false_eq_true, and_self, and_true, true_and, and_false, false_and, hF, kd0, rr0_2, kd8, m76n h e, m76s h hO hg hg0]
    · simp only [s96_0, s96_1, s96_4, s96_5, s96_8, s96_8n, s96_10, s96_11, s96_14, s96_15, s96_18, s96_18n, s96_20, s96_20n, s96_22n, s96_22, s96_25, s96_25n, s96_27n, s96_27, s96_30, s96_32, s96_33, s96_34, s96_37, s96_38, s96_39, s96_42, s96_44, s96_45, s96_46, s96_49, s96_49n, s96_51, s96_51n, s96_53, s96_56, s96_57, s96_60, s96_61, s96_64, s96_67, s96_70, s96_71, s96_74, s96_77, am_pu_s, am_pu_n, va_rf_s, va_rf_n, Option.bind_some, true_or, or_true, eq_self, if_true, if_false, ite_self, ite_true, ite_false, ↓reduceIte, reduceCtorEq, Nat.reduceEqDiff, Nat.reduceAdd, Nat.reduceLT, Nat.reduceLeDiff, Nat.reduceMul, Nat.reduceSub, not_true_eq_false, not_false_eq_true, and_self, and_true, true_and, and_false, false_and, hF, kd0, rr0_2, kd8, m76n h e, m76n h eg]
theorem c169 (h : mRep S σ) (hO : sOK N S) : ∃ r, am_v X (d + 4) 169 [.ref (66 : Nat), .int v, .int w, .int x] σ = some (some (.int r), σ) ∧ isAl S v w x r := by
  have hF := h.1
  unfold isAl
  rcases tI_c S v with ⟨b, hb, rfl, h0, e⟩ | e
  · rcases tI_c S w with ⟨g, hg, rfl, hg0, eg⟩ | eg
    · rw [e, eg]
      dsimp only
      rcases wth2 (w := x) with h1 | ⟨⟨h1, h2⟩, j, hj, rfl⟩
      · have hb' : ¬ (nI 0 ≤ x ∧ x ≤ nI 1) := fun q => (wthin (by decide) rfl).mp q h1
        refine ⟨-102, ?_, by rw [if_neg (wth2n h1)]⟩
        rw [s169]
        simp only [s169_0, s169_1, s169_2, s169_5, s169_8, s169_9, s169_10, s169_13, s169_16, s169_18, s169_21, s169_22, s169_23, s169_24, s169_27, s169_30, s169_31, s169_32, s169_33, s169_34, s169_37, s169_40, s169_42, am_pu_s, am_pu_n, va_rf_s, va_rf_n, Option.bind_some, true_or, or_true, eq_self, if_true, if_false, ite_self, ite_true, ite_false, ↓reduceIte, reduceCtorEq, Nat.reduceEqDiff, Nat.reduceAdd, Nat.reduceLT, Nat.reduceLeDiff, Nat.reduceMul, Nat.reduceSub, not_true_eq_false, not_false_eq_true, and_self, and_true, true_and, and_false, false_and, hF, kd66, m152s h hO hb h0, m152s h hO hg hg0, nI_10, m124, bI_f hb']
      · obtain ⟨L, t, p1, e2⟩ := m168 (X := X) (d := d) h hO hb hg hj
        have hb' : nI 0 ≤ nI j ∧ nI j ≤ nI 1 := ⟨nI_le (by omega) (by omega), nI_le (by omega) (by decide)⟩
        have hx : nI j = nI 0 ∨ nI j = nI 1 := by
          have : j = 0 ∨ j = 1 := by omega
          rcases this with rfl | rfl
          · exact Or.inl rfl
          · exact Or.inr rfl
        have e0 : (nI j = nI 0) = (j = 0) := nI_EQ (by omega) (by decide)
        refine ⟨if j = 0 then nI L else wM t, ?_, by
          rw [if_pos hx]
          refine ⟨L, t, p1, ?_⟩
          by_cases hj0 : j = 0
          · rw [if_pos hj0, if_pos (by rw [hj0])]
          · rw [if_neg hj0, if_neg (fun q => hj0 (e0.mp q))]⟩
        rw [s169]
        simp only [s169_0, s169_1, s169_2, s169_5, s169_8, s169_9, s169_10, s169_13, s169_16, s169_18, s169_21, s169_22, s169_23, s169_24, s169_27, s169_30, s169_31, s169_32, s169_33, s169_34, s169_37, s169_40, s169_42, am_pu_s, am_pu_n, va_rf_s, va_rf_n, Option.bind_some, true_or, or_true, eq_self, if_true, if_false, ite_self, ite_true, ite_false, ↓reduceIte, reduceCtorEq, Nat.reduceEqDiff, Nat.reduceAdd, Nat.reduceLT, Nat.reduceLeDiff, Nat.reduceMul, Nat.reduceSub, not_true_eq_false, not_false_eq_true, and_self, and_true, true_and, and_false, false_and, hF, kd66, m152s h hO hb h0, m152s h hO hg hg0, nI_10, m124, bI_t hb', e2]
    · refine ⟨-101, ?_, by rw [e, eg]⟩
      rw [s169]
      simp only [s169_0, s169_1, s169_2, s169_5, s169_8, s169_9, s169_10, s169_13, s169_16, s169_18, s169_21, s169_22, s169_23, s169_24, s169_27, s169_30, s169_31, s169_32, s169_33, s169_34, s169_37, s169_40, s169_42, am_pu_s, am_pu_n, va_rf_s, va_rf_n, Option.bind_some, true_or, or_true, eq_self, if_true, if_false, ite_self, ite_true, ite_false, ↓reduceIte, reduceCtorEq, Nat.reduceEqDiff, Nat.reduceAdd, Nat.reduceLT, Nat.reduceLeDiff, Nat.reduceMul, Nat.reduceSub, not_true_eq_false, not_false_eq_true, and_self, and_true, true_and, and_false, false_and, hF, kd66, m152s h hO hb h0, m152n h eg, nI_10]
  · refine ⟨-101, ?_, by rw [e]⟩
    rw [s169]
    simp only [s169_0, s169_1, s169_2, s169_5, s169_8, s169_9, s169_10, s169_13, s169_16, s169_18, s169_21, s169_22, s169_23, s169_24, s169_27, s169_30, s169_31, s169_32, s169_33, s169_34, s169_37, s169_40, s169_42, am_pu_s, am_pu_n, va_rf_s, va_rf_n, Option.bind_some, true_or, or_true, eq_self, if_true, if_false, ite_self, ite_true, ite_false, ↓reduceIte, reduceCtorEq, Nat.reduceEqDiff, Nat.reduceAdd, Nat.reduceLT, Nat.reduceLeDiff, Nat.reduceMul, Nat.reduceSub, not_true_eq_false, not_false_eq_true, and_self, and_true, true_and, and_false, false_and, hF, kd66, m152n h e]
end AK
