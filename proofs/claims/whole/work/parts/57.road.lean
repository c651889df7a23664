/-! the PAGE read as a ROAD: where the first fault is, whether it is whole -/
abbrev sFt (p c : Nat) : Prop := (p = 0 ∧ ¬ wKd (nI c) = -1) ∨ (p = 3 ∧ c = 44) ∨ (¬ p = 0 ∧ ¬ p = 3 ∧ 48 ≤ c ∧ c ≤ 57)
abbrev okP (S : am_St) (j : Nat) : Prop := j < 15 ∧ sFt (j % 4) (S 15 j 0)
def isFa (S : am_St) (r : Nat) : Prop := r ≤ S 14 0 0 ∧ (∀ j, j < r → okP S j) ∧ (r < S 14 0 0 → ¬ okP S r)
def sFf (S : am_St) : Nat → Nat → Nat
  | i, 0 => i
  | i, k + 1 => if okP S i then sFf S (i + 1) k else i
def sFa (S : am_St) : Nat := sFf S 0 (S 14 0 0)
theorem sFf_is (S : am_St) : ∀ k i, i + k = S 14 0 0 → (∀ j, j < i → okP S j) → isFa S (sFf S i k)
  | 0, i, hk, h => ⟨by rw [sFf]; omega, by rw [sFf]; exact h, fun q => by rw [sFf] at q; omega⟩
  | k + 1, i, hk, h => by
    rw [sFf]
    by_cases c : okP S i
    · rw [if_pos c]
      refine sFf_is S k (i + 1) (by omega) fun j hj => ?_
      by_cases e : j = i
      · rw [e]; exact c
      · exact h j (by omega)
    · rw [if_neg c]
      exact ⟨by omega, h, fun _ => c⟩
theorem sFa_is (S : am_St) : isFa S (sFa S) := sFf_is S _ 0 (by omega) fun j hj => absurd hj (by omega)
theorem isFa_u {S : am_St} {r : Nat} (h : isFa S r) : r = sFa S := by
  have h2 := sFa_is S
  by_cases c1 : r < sFa S
  · have := h2.1
    exact absurd (h2.2.1 r c1) (h.2.2 (by omega))
  · by_cases c2 : sFa S < r
    · have := h.1
      exact absurd (h.2.1 _ c2) (h2.2.2 (by omega))
    · omega
abbrev sWh (S : am_St) : Prop := sFa S = S 14 0 0 ∧ S 14 0 0 % 4 = 3 ∧ 2 ≤ (S 14 0 0 + 1) / 4
section RO
variable {X : am_X} {d N : Nat} {σ σ0 : am_M} {S : am_St}
theorem sO_L (hO : sOK N S) : S 14 0 0 ≤ 40 := hO.2.1.1
theorem sO_P (hO : sOK N S) {j : Nat} (hj : j < S 14 0 0) : 32 ≤ S 15 j 0 ∧ S 15 j 0 ≤ 126 := hO.2.1.2 j hj
theorem cR_L (h : cRep S σ) : am_I σ 1 1 = nI (S 14 0 0) := h.2.2.2.1.1
theorem cR_P (h : cRep S σ) {j : Nat} (hj : j < S 14 0 0) : am_I σ 2 j = nI (S 15 j 0) := h.2.2.2.1.2 j hj
theorem mR_L (h : mRep S σ) : am_I σ 66 16 = nI (S 14 0 0) := h.2.2.2.2.2.1.1
theorem mR_P (h : mRep S σ) {j : Nat} (hj : j < S 14 0 0) : am_I σ 79 j = nI (S 15 j 0) := h.2.2.2.2.2.1.2 j hj
theorem m24c (h : cRep S σ) (hO : sOK N S) {k : Nat} (hk : k < S 14 0 0) : am_v X (d + 1) 24 [.ref (1 : Nat), .int (nI k)] σ = some (some (.int (nI (S 15 k 0))), σ) := by
  rw [m24 h.1 (cR_L h) (sO_L hO) hk, cR_P h hk]
theorem m36 {p c : Nat} (hp : p < 4) (hc : c < 200) : am_v X (d + 2) 36 [.int (nI p), .int (nI c)] σ = some (some (.int (bI (sFt p c))), σ) := by
  have q0 : (nI p = nI 0) = (p = 0) := nI_EQ (by omega) (by decide)
  have q3 : (nI p = nI 3) = (p = 3) := nI_EQ (by omega) (by decide)
  have q44 : (nI c = nI 44) = (c = 44) := nI_EQ (by omega) (by decide)
  have e37 : am_v X (d + 1) 37 [.int (nI c)] σ = some (some (.int (wKd (nI c))), σ) := m37
  rw [s36]
  by_cases c0 : p = 0
  · by_cases c1 : wKd (nI c) = -1
    · have hb : ¬ sFt p c := by
        rintro (q | q | q)
        · exact q.2 c1
        · omega
        · omega
      rw [bI_f hb]
      simp only [s36_0, s36_1, s36_4, s36_5, s36_8, s36_9, s36_12, s36_13, s36_16, s36_17, s36_18, s36_19, s36_20, s36_23, s36_24, s36_26, s36_29, s36_30, s36_33, s36_34, s36_35, s36_36, s36_38, s36_41, s36_42, s36_44, s36_47, s36_48, s36_51, s36_52, am_pu_s, am_pu_n, va_rf_s, va_rf_n, Option.bind_some, true_or, or_true, eq_self, if_true, if_false, ite_self, ite_true, ite_false, ↓reduceIte, reduceCtorEq, Nat.reduceEqDiff, Nat.reduceAdd, Nat.reduceLT, Nat.reduceLeDiff, Nat.reduceMul, Nat.reduceSub, not_true_eq_false, not_false_eq_true, and_self, and_true, true_and, and_false, false_and, q0, c0, e37, c1]
    · rw [bI_t (Or.inl ⟨c0, c1⟩)]
      simp only [s36_0, s36_1, s36_4, s36_5, s36_8, s36_9, s36_12, s36_13, s36_16, s36_17, s36_18, s36_19, s36_20, s36_23, s36_24, s36_26, s36_29, s36_30, s36_33, s36_34, s36_35, s36_36, s36_38, s36_41, s36_42, s36_44, s36_47, s36_48, s36_51, s36_52, am_pu_s, am_pu_n, va_rf_s, va_rf_n, Option.bind_some, true_or, or_true, eq_self, if_true, if_false, ite_self, ite_true, ite_false, ↓reduceIte, reduceCtorEq, Nat.reduceEqDiff, Nat.reduceAdd, Nat.reduceLT, Nat.reduceLeDiff, Nat.reduceMul, Nat.reduceSub, not_true_eq_false, not_false_eq_true, and_self, and_true, true_and, and_false, false_and, q0, c0, e37, c1]
  · by_cases c3 : p = 3
    · by_cases c4 : c = 44
      · rw [bI_t (Or.inr (Or.inl ⟨c3, c4⟩))]
        simp only [s36_0, s36_1, s36_4, s36_5, s36_8, s36_9, s36_12, s36_13, s36_16, s36_17, s36_18, s36_19, s36_20, s36_23, s36_24, s36_26, s36_29, s36_30, s36_33, s36_34, s36_35, s36_36, s36_38, s36_41, s36_42, s36_44, s36_47, s36_48, s36_51, s36_52, am_pu_s, am_pu_n, va_rf_s, va_rf_n, Option.bind_some, true_or, or_true, eq_self, if_true, if_false, ite_self, ite_true, ite_false, ↓reduceIte, reduceCtorEq, Nat.reduceEqDiff, Nat.reduceAdd, Nat.reduceLT, Nat.reduceLeDiff, Nat.reduceMul, Nat.reduceSub, not_true_eq_false, not_false_eq_true, and_self, and_true, true_and, and_false, false_and, q0, c0, q3, c3, q44, c4, nI_EQ]
      · have hb : ¬ sFt p c := by
          rintro (q | q | q)
          · exact c0 q.1
          · exact c4 q.2
          · exact q.2.1 c3
        rw [bI_f hb]
        simp only [s36_0, s36_1, s36_4, s36_5, s36_8, s36_9, s36_12, s36_13, s36_16, s36_17, s36_18, s36_19, s36_20, s36_23, s36_24, s36_26, s36_29, s36_30, s36_33, s36_34, s36_35, s36_36, s36_38, s36_41, s36_42, s36_44, s36_47, s36_48, s36_51, s36_52, am_pu_s, am_pu_n, va_rf_s, va_rf_n, Option.bind_some, true_or, or_true, eq_self, if_true, if_false, ite_self, ite_true, ite_false, ↓reduceIte, reduceCtorEq, Nat.reduceEqDiff, Nat.reduceAdd, Nat.reduceLT, Nat.reduceLeDiff, Nat.reduceMul, Nat.reduceSub, not_true_eq_false, not_false_eq_true, and_self, and_true, true_and, and_false, false_and, q0, c0, q3, c3, q44, c4, nI_EQ]
    · by_cases c5 : c < 48
      · have hb : ¬ sFt p c := by
          rintro (q | q | q)
          · exact c0 q.1
          · exact c3 q.1
          · omega
        have t : nI c < nI 48 := nI_lt c5 (by decide)
        rw [bI_f hb]
        simp only [s36_0, s36_1, s36_4, s36_5, s36_8, s36_9, s36_12, s36_13, s36_16, s36_17, s36_18, s36_19, s36_20, s36_23, s36_24, s36_26, s36_29, s36_30, s36_33, s36_34, s36_35, s36_36, s36_38, s36_41, s36_42, s36_44, s36_47, s36_48, s36_51, s36_52, am_pu_s, am_pu_n, va_rf_s, va_rf_n, Option.bind_some, true_or, or_true, eq_self, if_true, if_false, ite_self, ite_true, ite_false, ↓reduceIte, reduceCtorEq, Nat.reduceEqDiff, Nat.reduceAdd, Nat.reduceLT, Nat.reduceLeDiff, Nat.reduceMul, Nat.reduceSub, not_true_eq_false, not_false_eq_true, and_self, and_true, true_and, and_false, false_and, q0, c0, q3, c3, t]
      · have t : ¬ nI c < nI 48 := nI_nlt (by omega) (by omega)
        by_cases c6 : 57 < c
        · have hb : ¬ sFt p c := by
            rintro (q | q | q)
            · exact c0 q.1
            · exact c3 q.1
            · omega
          have t2 : nI 57 < nI c := nI_lt c6 (by omega)
          rw [bI_f hb]
          simp only [s36_0, s36_1, s36_4, s36_5, s36_8, s36_9, s36_12, s36_13, s36_16, s36_17, s36_18, s36_19, s36_20, s36_23, s36_24, s36_26, s36_29, s36_30, s36_33, s36_34, s36_35, s36_36, s36_38, s36_41, s36_42, s36_44, s36_47, s36_48, s36_51, s36_52, am_pu_s, am_pu_n, va_rf_s, va_rf_n, Option.bind_some, true_or, or_true, eq_self, if_true, if_false, ite_self, ite_true, ite_false, ↓reduceIte, reduceCtorEq, Nat.reduceEqDiff, Nat.reduceAdd, Nat.reduceLT, Nat.reduceLeDiff, Nat.reduceMul, Nat.reduceSub, not_true_eq_false, not_false_eq_true, and_self, and_true, true_and, and_false, false_and, q0, c0, q3, c3, t, t2]
        · have t2 : ¬ nI 57 < nI c := nI_nlt (by omega) (by decide)
          rw [bI_t (Or.inr (Or.inr ⟨c0, c3, by omega, by omega⟩))]
          simp only [s36_0, s36_1, s36_4, s36_5, s36_8, s36_9, s36_12, s36_13, s36_16, s36_17, s36_18, s36_19, s36_20, s36_23, s36_24, s36_26, s36_29, s36_30, s36_33, s36_34, s36_35, s36_36, s36_38, s36_41, s36_42, s36_44, s36_47, s36_48, s36_51, s36_52, am_pu_s, am_pu_n, va_rf_s, va_rf_n, Option.bind_some, true_or, or_true, eq_self, if_true, if_false, ite_self, ite_true, ite_false, ↓reduceIte, reduceCtorEq, Nat.reduceEqDiff, Nat.reduceAdd, Nat.reduceLT, Nat.reduceLeDiff, Nat.reduceMul, Nat.reduceSub, not_true_eq_false, not_false_eq_true, and_self, and_true, true_and, and_false, false_and, q0, c0, q3, c3, t, t2]
theorem nI_40 : ¬ nI 4 = nI 0 := by decide +kernel
theorem m31 (h : cRep S σ) (hO : sOK N S) : am_v X (d + 3) 31 [.ref (1 : Nat)] σ = some (some (.int (nI (sFa S))), σ) := by
  have hF := h.1
  have hL := sO_L hO
  have loop : ∀ k i, i + k = S 14 0 0 → am_w X (d + 2) 31 2 [some (.ref (1 : Nat)), some (.int (nI i))] [] σ = some (some (.int (nI (sFf S i k))), σ) := by
    intro k
    induction k with
    | zero =>
      intro i hk
      have hk : i = S 14 0 0 := by omega
      subst hk
      rw [s31_2, sFf]
      simp only [s31_3, s31_4, s31_7, s31_38, s31_39, s31_42, am_pu_s, am_pu_n, va_rf_s, va_rf_n, Option.bind_some, true_or, or_true, eq_self, if_true, if_false, ite_self, ite_true, ite_false, ↓reduceIte, reduceCtorEq, Nat.reduceEqDiff, Nat.reduceAdd, Nat.reduceLT, Nat.reduceLeDiff, Nat.reduceMul, Nat.reduceSub, not_true_eq_false, not_false_eq_true, and_self, and_true, true_and, and_false, false_and, hF, kd1, cR_L h, Int32.le_refl]
    | succ k ih =>
      intro i hk
      have c0 : ¬ nI (S 14 0 0) ≤ nI i := nI_ge (by omega) (by omega)
      have hP := sO_P hO (show i < S 14 0 0 by omega)
      rw [s31_2, sFf]
      by_cases c1 : 15 ≤ i
      · have t : nI 15 ≤ nI i := nI_le c1 (by omega)
        rw [if_neg (fun q => by omega)]
        simp only [s31_3, s31_4, s31_7, s31_10, s31_11, s31_13, s31_16, s31_17, s31_18, s31_19, s31_20, s31_21, s31_24, s31_27, s31_30, s31_31, am_pu_s, am_pu_n, va_rf_s, va_rf_n, Option.bind_some, true_or, or_true, eq_self, if_true, if_false, ite_self, ite_true, ite_false, ↓reduceIte, reduceCtorEq, Nat.reduceEqDiff, Nat.reduceAdd, Nat.reduceLT, Nat.reduceLeDiff, Nat.reduceMul, Nat.reduceSub, not_true_eq_false, not_false_eq_true, and_self, and_true, true_and, and_false, false_and, hF, kd1, cR_L h, c0, t]
      · have t : ¬ nI 15 ≤ nI i := nI_ge (by omega) (by decide)
        have e1 : nI i - nI i / nI 4 * nI 4 = nI (i % 4) := pk_rem (by omega) (by decide) (by decide)
        have e2 := m36 (X := X) (d := d) (σ := σ) (p := i % 4) (c := S 15 i 0) (by omega) (by omega)
        by_cases c2 : sFt (i % 4) (S 15 i 0)
        · rw [if_pos ⟨by omega, c2⟩]
          rw [bI_t c2] at e2
          simp only [s31_3, s31_4, s31_7, s31_10, s31_11, s31_13, s31_16, s31_17, s31_18, s31_19, s31_20, s31_21, s31_24, s31_27, s31_30, s31_31, s31_32, s31_35, am_pu_s, am_pu_n, va_rf_s, va_rf_n, Option.bind_some, true_or, or_true, eq_self, if_true, if_false, ite_self, ite_true, ite_false, ↓reduceIte, reduceCtorEq, Nat.reduceEqDiff, Nat.reduceAdd, Nat.reduceLT, Nat.reduceLeDiff, Nat.reduceMul, Nat.reduceSub, not_true_eq_false, not_false_eq_true, and_self, and_true, true_and, and_false, false_and, hF, kd1, cR_L h, c0, t, nI_40, e1, m24c h hO (show i < S 14 0 0 by omega), e2, nI_10, nI_add]
          exact ih (i + 1) (by omega)
        · rw [if_neg (fun q => c2 q.2)]
          rw [bI_f c2] at e2
          simp only [s31_3, s31_4, s31_7, s31_10, s31_11, s31_13, s31_16, s31_17, s31_18, s31_19, s31_20, s31_21, s31_24, s31_27, s31_30, s31_31, s31_32, s31_35, am_pu_s, am_pu_n, va_rf_s, va_rf_n, Option.bind_some, true_or, or_true, eq_self, if_true, if_false, ite_self, ite_true, ite_false, ↓reduceIte, reduceCtorEq, Nat.reduceEqDiff, Nat.reduceAdd, Nat.reduceLT, Nat.reduceLeDiff, Nat.reduceMul, Nat.reduceSub, not_true_eq_false, not_false_eq_true, and_self, and_true, true_and, and_false, false_and, hF, kd1, cR_L h, c0, t, nI_40, e1, m24c h hO (show i < S 14 0 0 by omega), e2]
  rw [s31]
  simp only [s31_0, s31_1]
  exact loop _ 0 (by omega)
theorem m33 (h : cRep S σ) (hO : sOK N S) : am_v X (d + 1) 33 [.ref (1 : Nat)] σ = some (some (.int (nI ((S 14 0 0 + 1) / 4))), σ) := by
  have hL := sO_L hO
  have e : nI (S 14 0 0 + 1) / nI 4 = nI ((S 14 0 0 + 1) / 4) := pk_div (by omega) (by decide) (by decide)
  rw [s33]
  simp only [s33_0, s33_1, s33_4, s33_5, s33_6, s33_7, s33_8, am_pu_s, am_pu_n, va_rf_s, va_rf_n, Option.bind_some, true_or, or_true, eq_self, if_true, if_false, ite_self, ite_true, ite_false, ↓reduceIte, reduceCtorEq, Nat.reduceEqDiff, Nat.reduceAdd, Nat.reduceLT, Nat.reduceLeDiff, Nat.reduceMul, Nat.reduceSub, not_true_eq_false, not_false_eq_true, and_self, and_true, true_and, and_false, false_and, h.1, kd1, cR_L h, nI_add, nI_40, e]
theorem m32 (h : cRep S σ) (hO : sOK N S) : am_v X (d + 4) 32 [.ref (1 : Nat)] σ = some (some (.int (bI (sWh S))), σ) := by
  have hL := sO_L hO
  have hF := h.1
  have hf := (sFa_is S).1
  have e0 : (nI (sFa S) = nI (S 14 0 0)) = (sFa S = S 14 0 0) := nI_EQ (by omega) (by omega)
  have e1 : nI (S 14 0 0) - nI (S 14 0 0) / nI 4 * nI 4 = nI (S 14 0 0 % 4) := pk_rem (by omega) (by decide) (by decide)
  have e2 : (nI (S 14 0 0 % 4) = nI 3) = (S 14 0 0 % 4 = 3) := nI_EQ (by omega) (by decide)
  rw [s32]
  by_cases c0 : sFa S = S 14 0 0
  · by_cases c1 : S 14 0 0 % 4 = 3
    · by_cases c2 : 2 ≤ (S 14 0 0 + 1) / 4
      · have t : ¬ nI ((S 14 0 0 + 1) / 4) < nI 2 := nI_nlt c2 (by omega)
        rw [bI_t ⟨c0, c1, c2⟩]
        simp only [s32_0, s32_1, s32_4, s32_5, s32_8, s32_11, s32_12, s32_15, s32_16, s32_17, s32_18, s32_21, s32_22, s32_25, s32_26, s32_29, s32_30, s32_33, s32_34, am_pu_s, am_pu_n, va_rf_s, va_rf_n, Option.bind_some, true_or, or_true, eq_self, if_true, if_false, ite_self, ite_true, ite_false, ↓reduceIte, reduceCtorEq, Nat.reduceEqDiff, Nat.reduceAdd, Nat.reduceLT, Nat.reduceLeDiff, Nat.reduceMul, Nat.reduceSub, not_true_eq_false, not_false_eq_true, and_self, and_true, true_and, and_false, false_and, hF, kd1, cR_L h, m31 h hO, m33 h hO, e0, c0, e1, nI_40, e2, c1, t]
      · have t : nI ((S 14 0 0 + 1) / 4) < nI 2 := nI_lt (by omega) (by decide)
        rw [bI_f (fun q => c2 q.2.2)]
        simp only [s32_0, s32_1, s32_4, s32_5, s32_8, s32_11, s32_12, s32_15, s32_16, s32_17, s32_18, s32_21, s32_22, s32_25, s32_26, s32_29, s32_30, s32_33, s32_34, am_pu_s, am_pu_n, va_rf_s, va_rf_n, Option.bind_some, true_or, or_true, eq_self, if_true, if_false, ite_self, ite_true, ite_false, ↓reduceIte, reduceCtorEq, Nat.reduceEqDiff, Nat.reduceAdd, Nat.reduceLT, Nat.reduceLeDiff, Nat.reduceMul, Nat.reduceSub, not_true_eq_false, not_false_eq_true, and_self, and_true, true_and, and_false, false_and, hF, kd1, cR_L h, m31 h hO, m33 h hO, e0, c0, e1, nI_40, e2, c1, t]
    · rw [bI_f (fun q => c1 q.2.1)]
      simp only [s32_0, s32_1, s32_4, s32_5, s32_8, s32_11, s32_12, s32_15, s32_16, s32_17, s32_18, s32_21, s32_22, s32_25, s32_26, s32_29, s32_30, s32_33, s32_34, am_pu_s, am_pu_n, va_rf_s, va_rf_n, Option.bind_some, true_or, or_true, eq_self, if_true, if_false, ite_self, ite_true, ite_false, ↓reduceIte, reduceCtorEq, Nat.reduceEqDiff, Nat.reduceAdd, Nat.reduceLT, Nat.reduceLeDiff, Nat.reduceMul, Nat.reduceSub, not_true_eq_false, not_false_eq_true, and_self, and_true, true_and, and_false, false_and, hF, kd1, cR_L h, m31 h hO, e0, c0, e1, nI_40, e2, c1]
  · rw [bI_f (fun q => c0 q.1)]
    simp only [s32_0, s32_1, s32_4, s32_5, s32_8, s32_11, s32_12, s32_15, s32_16, s32_17, s32_18, s32_21, s32_22, s32_25, s32_26, s32_29, s32_30, s32_33, s32_34, am_pu_s, am_pu_n, va_rf_s, va_rf_n, Option.bind_some, true_or, or_true, eq_self, if_true, if_false, ite_self, ite_true, ite_false, ↓reduceIte, reduceCtorEq, Nat.reduceEqDiff, Nat.reduceAdd, Nat.reduceLT, Nat.reduceLeDiff, Nat.reduceMul, Nat.reduceSub, not_true_eq_false, not_false_eq_true, and_self, and_true, true_and, and_false, false_and, hF, kd1, cR_L h, m31 h hO, e0, c0]
theorem m34 (h : cRep S σ) (hO : sOK N S) {g : Nat} (hg : g * 4 < S 14 0 0) : am_v X (d + 2) 34 [.ref (1 : Nat), .int (nI g)] σ = some (some (.int (wKd (nI (S 15 (g * 4) 0)))), σ) := by
  have e37 : am_v X (d + 1) 37 [.int (nI (S 15 (g * 4) 0))] σ = some (some (.int (wKd (nI (S 15 (g * 4) 0)))), σ) := m37
  rw [s34]
  simp only [s34_0, s34_1, s34_2, s34_3, s34_4, s34_7, s34_10, am_pu_s, am_pu_n, va_rf_s, va_rf_n, Option.bind_some, true_or, or_true, eq_self, if_true, if_false, ite_self, ite_true, ite_false, ↓reduceIte, reduceCtorEq, Nat.reduceEqDiff, Nat.reduceAdd, Nat.reduceLT, Nat.reduceLeDiff, Nat.reduceMul, Nat.reduceSub, not_true_eq_false, not_false_eq_true, and_self, and_true, true_and, and_false, false_and, h.1, kd1, pk_mul, m24c h hO hg, e37]
theorem m35 (h : cRep S σ) (hO : sOK N S) {g : Nat} (hg : g * 4 + 2 < S 14 0 0) (h1 : 48 ≤ S 15 (g * 4 + 1) 0) (h2 : 48 ≤ S 15 (g * 4 + 2) 0) : am_v X (d + 2) 35 [.ref (1 : Nat), .int (nI g)] σ = some (some (.int (nI (10 * (S 15 (g * 4 + 1) 0 - 48) + S 15 (g * 4 + 2) 0 - 48))), σ) := by
  rw [s35]
  simp only [s35_0, s35_1, s35_2, s35_3, s35_4, s35_5, s35_6, s35_9, s35_11, s35_12, s35_13, s35_15, s35_16, s35_17, s35_18, s35_19, s35_20, s35_21, s35_22, s35_23, s35_26, s35_27, s35_29, s35_30, am_pu_s, am_pu_n, va_rf_s, va_rf_n, Option.bind_some, true_or, or_true, eq_self, if_true, if_false, ite_self, ite_true, ite_false, ↓reduceIte, reduceCtorEq, Nat.reduceEqDiff, Nat.reduceAdd, Nat.reduceLT, Nat.reduceLeDiff, Nat.reduceMul, Nat.reduceSub, not_true_eq_false, not_false_eq_true, and_self, and_true, true_and, and_false, false_and, h.1, kd1, pk_mul, nI_add, m24c h hO (show g * 4 + 1 < S 14 0 0 by omega), m24c h hO hg, pk_sub h1, pk_sub (show 48 ≤ 10 * (S 15 (g * 4 + 1) 0 - 48) + S 15 (g * 4 + 2) 0 by omega)]
theorem c88 (h : cRep S σ) (hO : sOK N S) : am_v X (d + 4) 88 [.ref (0 : Nat)] σ = some (some (.int (nI (sFa S))), σ) := by
  rw [s88]
  simp only [s88_0, s88_1, s88_4, s88_7, am_pu_s, am_pu_n, va_rf_s, va_rf_n, Option.bind_some, true_or, or_true, eq_self, if_true, if_false, ite_self, ite_true, ite_false, ↓reduceIte, reduceCtorEq, Nat.reduceEqDiff, Nat.reduceAdd, Nat.reduceLT, Nat.reduceLeDiff, Nat.reduceMul, Nat.reduceSub, not_true_eq_false, not_false_eq_true, and_self, and_true, true_and, and_false, false_and, h.1, kd0, rr0_0, m31 h hO]
abbrev sFg (S : am_St) (k : Nat) : Prop := k < S 14 0 0 ∧ 48 ≤ S 15 k 0 ∧ S 15 k 0 ≤ 57
theorem m133 (h : mRep S σ) (hO : sOK N S) {k : Nat} (hk : k < 1000) : am_v X (d + 2) 133 [.ref (66 : Nat), .int (nI k)] σ = some (some (.int (bI (sFg S k))), σ) := by
  have hF := h.1
  have hL := sO_L hO
  rw [s133]
  by_cases c0 : k < S 14 0 0
  · have t : ¬ nI (S 14 0 0) ≤ nI k := nI_ge c0 (by omega)
    have hP := sO_P hO c0
    by_cases c1 : 48 ≤ S 15 k 0 ∧ S 15 k 0 ≤ 57
    · have hb : nI 48 ≤ nI (S 15 k 0) ∧ nI (S 15 k 0) ≤ nI 57 := ⟨nI_le c1.1 (by omega), nI_le c1.2 (by decide)⟩
      rw [bI_t ⟨c0, c1⟩]
      simp only [s133_0, s133_1, s133_2, s133_5, s133_8, s133_9, s133_12, s133_13, s133_14, s133_16, s133_18, s133_21, s133_24, s133_25, s133_28, s133_29, am_pu_s, am_pu_n, va_rf_s, va_rf_n, Option.bind_some, true_or, or_true, eq_self, if_true, if_false, ite_self, ite_true, ite_false, ↓reduceIte, reduceCtorEq, Nat.reduceEqDiff, Nat.reduceAdd, Nat.reduceLT, Nat.reduceLeDiff, Nat.reduceMul, Nat.reduceSub, not_true_eq_false, not_false_eq_true, and_self, and_true, true_and, and_false, false_and, hF, kd66, rr66_17, mR_L h, t, ix79 hF (show k < 40 by omega), nI_cl (show k < 2147483648 by omega), mR_P h c0, m124, bI_t hb, nI_10]
    · have hb : ¬ (nI 48 ≤ nI (S 15 k 0) ∧ nI (S 15 k 0) ≤ nI 57) := fun q => c1 ⟨(nI_leI (by decide) (by omega)).mp q.1, (nI_leI (by omega) (by decide)).mp q.2⟩
      rw [bI_f (fun q => c1 q.2)]
      simp only [s133_0, s133_1, s133_2, s133_5, s133_8, s133_9, s133_12, s133_13, s133_14, s133_16, s133_18, s133_21, s133_24, s133_25, s133_28, s133_29, am_pu_s, am_pu_n, va_rf_s, va_rf_n, Option.bind_some, true_or, or_true, eq_self, if_true, if_false, ite_self, ite_true, ite_false, ↓reduceIte, reduceCtorEq, Nat.reduceEqDiff, Nat.reduceAdd, Nat.reduceLT, Nat.reduceLeDiff, Nat.reduceMul, Nat.reduceSub, not_true_eq_false, not_false_eq_true, and_self, and_true, true_and, and_false, false_and, hF, kd66, rr66_17, mR_L h, t, ix79 hF (show k < 40 by omega), nI_cl (show k < 2147483648 by omega), mR_P h c0, m124, bI_f hb]
  · have t : nI (S 14 0 0) ≤ nI k := nI_le (by omega) (by omega)
    rw [bI_f (fun q => c0 q.1)]
    simp only [s133_0, s133_1, s133_2, s133_5, s133_8, s133_9, s133_12, s133_13, s133_14, s133_16, s133_18, s133_21, s133_24, s133_25, s133_28, s133_29, am_pu_s, am_pu_n, va_rf_s, va_rf_n, Option.bind_some, true_or, or_true, eq_self, if_true, if_false, ite_self, ite_true, ite_false, ↓reduceIte, reduceCtorEq, Nat.reduceEqDiff, Nat.reduceAdd, Nat.reduceLT, Nat.reduceLeDiff, Nat.reduceMul, Nat.reduceSub, not_true_eq_false, not_false_eq_true, and_self, and_true, true_and, and_false, false_and, hF, kd66, rr66_17, mR_L h, t]
theorem m134 (h : mRep S σ) (hO : sOK N S) : ∃ σ', am_v X (d + 3) 134 [.ref (66 : Nat)] σ = some (some (.int (nI (sFa S))), σ') ∧ am_pr nsA σ σ' ∧ am_I σ' 66 18 = bI (sWh S) ∧ (sWh S → am_I σ' 66 19 = nI ((S 14 0 0 + 1) / 4)) := by
  have hF := h.1
  have hL := sO_L hO
  have loop : ∀ q m σ1, m + (q + 1) = 4 → am_pr nsA σ σ1 → am_I σ1 66 19 = nI m → am_I σ1 66 18 = nI 0 → 4 * m ≤ S 14 0 0 → (∀ j, j < 4 * m → okP S j) → ∃ σ', am_w X (d + 2) 134 12 [some (.ref (66 : Nat)), some (.int (nI (4 * m)))] [] σ1 = some (some (.int (nI (sFa S))), σ') ∧ am_pr nsA σ σ' ∧ am_I σ' 66 18 = bI (sWh S) ∧ (sWh S → am_I σ' 66 19 = nI ((S 14 0 0 + 1) / 4)) := by
    intro q
    induction q with
    | zero => ?_
    | succ q ih => ?_
    all_goals
      intro m σ1 hm hp g19 g18 hle hok
      have h1 := h.prA hp
      have hF1 := h1.1
      have c4 : ¬ nI 4 ≤ nI m := nI_ge (by omega) (by decide)
      have e0 : (nI (4 * m) = nI (S 14 0 0)) = (4 * m = S 14 0 0) := nI_EQ (by omega) (by omega)
      have step := s134_12 (X := X) (d := d + 2) (σ := σ1) (a := 66) (l1 := some (.int (nI (4 * m)))) (st := [])
      rw [step]
      clear step
      by_cases cn : 4 * m = S 14 0 0
      · have hr : 4 * m = sFa S := isFa_u ⟨by omega, hok, fun q => absurd q (by omega)⟩
        have hw : ¬ sWh S := fun q => by omega
        refine ⟨σ1, ?_, hp, by rw [bI_f hw]; exact g18, fun q => absurd q hw⟩
        rw [← hr]
        simp only [s134_13, s134_16, s134_17, s134_20, s134_21, s134_22, s134_25, s134_28, s134_29, s134_32, s134_33, s134_34, s134_37, s134_38, s134_41, s134_42, am_pu_s, am_pu_n, va_rf_s, va_rf_n, Option.bind_some, true_or, or_true, eq_self, if_true, if_false, ite_self, ite_true, ite_false, ↓reduceIte, reduceCtorEq, Nat.reduceEqDiff, Nat.reduceAdd, Nat.reduceLT, Nat.reduceLeDiff, Nat.reduceMul, Nat.reduceSub, not_true_eq_false, not_false_eq_true, and_self, and_true, true_and, and_false, false_and, hF1, kd66, g19, c4, mR_L h1, e0, cn]
      have hlt : 4 * m < S 14 0 0 := by omega
      have hP0 := sO_P hO hlt
      by_cases ck : wKd (nI (S 15 (4 * m) 0)) = -1
      · have hr : 4 * m = sFa S := isFa_u ⟨by omega, hok, fun _ q => by
          rcases q.2 with q | q | q
          · exact q.2 ck
          · omega
          · omega⟩
        have hw : ¬ sWh S := fun q => by omega
        refine ⟨σ1, ?_, hp, by rw [bI_f hw]; exact g18, fun q => absurd q hw⟩
        rw [← hr]
        simp only [s134_13, s134_16, s134_17, s134_20, s134_21, s134_22, s134_25, s134_28, s134_29, s134_32, s134_33, s134_34, s134_37, s134_38, s134_41, s134_42, am_pu_s, am_pu_n, va_rf_s, va_rf_n, Option.bind_some, true_or, or_true, eq_self, if_true, if_false, ite_self, ite_true, ite_false, ↓reduceIte, reduceCtorEq, Nat.reduceEqDiff, Nat.reduceAdd, Nat.reduceLT, Nat.reduceLeDiff, Nat.reduceMul, Nat.reduceSub, not_true_eq_false, not_false_eq_true, and_self, and_true, true_and, and_false, false_and, hF1, kd66, g19, c4, mR_L h1, e0, cn, rr66_17, ix79 hF1 (show 4 * m < 40 by omega), nI_cl (show 4 * m < 2147483648 by omega), mR_P h1 hlt, m132, ck]
      have ok0 : okP S (4 * m) := ⟨by omega, Or.inl ⟨by omega, ck⟩⟩
      have hok1 : ∀ j, j < 4 * m + 1 → okP S j := fun j hj => by
        by_cases e : j = 4 * m
        · rw [e]; exact ok0
        · exact hok j (by omega)
      have f1 := m133 (X := X) (d := d) h1 hO (k := 4 * m + 1) (by omega)
      have f2 := m133 (X := X) (d := d) h1 hO (k := 4 * m + 2) (by omega)
      by_cases cf : sFg S (4 * m + 1)
      · have ok1 : okP S (4 * m + 1) := ⟨by omega, Or.inr (Or.inr ⟨by omega, by omega, cf.2⟩)⟩
        have hok2 : ∀ j, j < 4 * m + 2 → okP S j := fun j hj => by
          by_cases e : j = 4 * m + 1
          · rw [e]; exact ok1
          · exact hok1 j (by omega)
        rw [bI_t cf] at f1
        by_cases cg : sFg S (4 * m + 2)
        · have ok2 : okP S (4 * m + 2) := ⟨by omega, Or.inr (Or.inr ⟨by omega, by omega, cg.2⟩)⟩
          have hok3 : ∀ j, j < 4 * m + 3 → okP S j := fun j hj => by
            by_cases e : j = 4 * m + 2
            · rw [e]; exact ok2
            · exact hok2 j (by omega)
          have hle3 : 4 * m + 3 ≤ S 14 0 0 := cg.1
          rw [bI_t cg] at f2
          have e3 : (nI (4 * m + 3) = nI (S 14 0 0)) = (4 * m + 3 = S 14 0 0) := nI_EQ (by omega) (by omega)
          have e4 : (nI (m + 1) = nI 4) = (m + 1 = 4) := nI_EQ (by omega) (by decide)
          by_cases cw : 4 * m + 3 = S 14 0 0
          · have hr : 4 * m + 3 = sFa S := isFa_u ⟨by omega, hok3, fun q => absurd q (by omega)⟩
            by_cases c1 : m + 1 ≤ 1
            · have hw : ¬ sWh S := fun q => by omega
              have t1 : nI (m + 1) ≤ nI 1 := nI_le c1 (by decide)
              have hp2 : am_pr nsA σ (am_wI (am_wI σ1 66 19 (nI (m + 1))) 66 18 (nI 0)) := (hp.w (by rfl)).w (by rfl)
              refine ⟨_, ?_, hp2, ?_, fun q => absurd q hw⟩
              · rw [← hr]
                simp only [s134_13, s134_16, s134_17, s134_20, s134_21, s134_22, s134_25, s134_28, s134_29, s134_32, s134_33, s134_34, s134_37, s134_38, s134_41, s134_42, s134_43, s134_44, s134_45, s134_46, s134_47, s134_50, s134_53, s134_54, s134_55, s134_56, s134_57, s134_60, s134_63, s134_64, s134_65, s134_66, s134_67, s134_70, s134_73, s134_74, s134_75, s134_76, s134_79, s134_80, s134_81, s134_82, s134_83, s134_84, s134_85, s134_88, s134_89, s134_90, s134_93, s134_96, s134_97, s134_98, s134_99, s134_102, s134_105, s134_106, s134_109, s134_110, s134_113, s134_114, s134_117, s134_118, s134_121, s134_122, s134_123, s134_126, s134_129, s134_130, s134_133, s134_134, s134_137, s134_138, s134_141, s134_142, s134_143, s134_145, s134_148, s134_149, am_pu_s, am_pu_n, va_rf_s, va_rf_n, Option.bind_some, true_or, or_true, eq_self, if_true, if_false, ite_self, ite_true, ite_false, ↓reduceIte, reduceCtorEq, Nat.reduceEqDiff, Nat.reduceAdd, Nat.reduceLT, Nat.reduceLeDiff, Nat.reduceMul, Nat.reduceSub, not_true_eq_false, not_false_eq_true, and_self, and_true, true_and, and_false, false_and, am_I_wI, am_I_wJ, am_J_wI, am_J_wJ, am_R_wI, am_R_wJ, am_kd_wI, am_kd_wJ, am_ln_wI, am_ln_wJ, am_ix_wI, am_ix_wJ, am_F_wI, am_F_wJ, am_I_wC, am_J_wC, am_R_wC, am_kd_wC, am_ln_wC, am_ix_wC, am_F_wC, hF1, kd66, g19, c4, mR_L h1, e0, cn, rr66_17, ix79 hF1 (show 4 * m < 40 by omega), nI_cl (show 4 * m < 2147483648 by omega), mR_P h1 hlt, m132, ck, nI_add, f1, f2, nI_10, e3, cw, t1]
              · rw [bI_f hw, am_I_wI, if_pos ⟨rfl, rfl⟩]
            · have hw : sWh S := ⟨by omega, by omega, by omega⟩
              have t1 : ¬ nI (m + 1) ≤ nI 1 := nI_ge (by omega) (by omega)
              have hp2 : am_pr nsA σ (am_wI (am_wI σ1 66 19 (nI (m + 1))) 66 18 (nI 1)) := (hp.w (by rfl)).w (by rfl)
              refine ⟨_, ?_, hp2, ?_, fun q => ?_⟩
              · rw [← hr]
                simp only [s134_13, s134_16, s134_17, s134_20, s134_21, s134_22, s134_25, s134_28, s134_29, s134_32, s134_33, s134_34, s134_37, s134_38, s134_41, s134_42, s134_43, s134_44, s134_45, s134_46, s134_47, s134_50, s134_53, s134_54, s134_55, s134_56, s134_57, s134_60, s134_63, s134_64, s134_65, s134_66, s134_67, s134_70, s134_73, s134_74, s134_75, s134_76, s134_79, s134_80, s134_81, s134_82, s134_83, s134_84, s134_85, s134_88, s134_89, s134_90, s134_93, s134_96, s134_97, s134_98, s134_99, s134_102, s134_105, s134_106, s134_109, s134_110, s134_113, s134_114, s134_117, s134_118, s134_121, s134_122, s134_123, s134_126, s134_129, s134_130, s134_133, s134_134, s134_137, s134_138, s134_141, s134_142, s134_143, s134_145, s134_148, s134_149, am_pu_s, am_pu_n, va_rf_s, va_rf_n, Option.bind_some, true_or, or_true, eq_self, if_true, if_false, ite_self, ite_true, ite_false, ↓reduceIte, reduceCtorEq, Nat.reduceEqDiff, Nat.reduceAdd, Nat.reduceLT, Nat.reduceLeDiff, Nat.reduceMul, Nat.reduceSub, not_true_eq_false, not_false_eq_true, and_self, and_true, true_and, and_false, false_and, am_I_wI, am_I_wJ, am_J_wI, am_J_wJ, am_R_wI, am_R_wJ, am_kd_wI, am_kd_wJ, am_ln_wI, am_ln_wJ, am_ix_wI, am_ix_wJ, am_F_wI, am_F_wJ, am_I_wC, am_J_wC, am_R_wC, am_kd_wC, am_ln_wC, am_ix_wC, am_F_wC, hF1, kd66, g19, c4, mR_L h1, e0, cn, rr66_17, ix79 hF1 (show 4 * m < 40 by omega), nI_cl (show 4 * m < 2147483648 by omega), mR_P h1 hlt, m132, ck, nI_add, f1, f2, nI_10, e3, cw, t1]
              · rw [bI_t hw, am_I_wI, if_pos ⟨rfl, rfl⟩]
              · rw [am_I_wI, if_neg (by omega), am_I_wI, if_pos ⟨rfl, rfl⟩, show (S 14 0 0 + 1) / 4 = m + 1 by omega]
          · have hlt3 : 4 * m + 3 < S 14 0 0 := by omega
            have hp2 : am_pr nsA σ (am_wI (am_wI σ1 66 19 (nI (m + 1))) 66 18 (nI 0)) := (hp.w (by rfl)).w (by rfl)
            have g18' : am_I (am_wI (am_wI σ1 66 19 (nI (m + 1))) 66 18 (nI 0)) 66 18 = nI 0 := by rw [am_I_wI, if_pos ⟨rfl, rfl⟩]
            have g19' : am_I (am_wI (am_wI σ1 66 19 (nI (m + 1))) 66 18 (nI 0)) 66 19 = nI (m + 1) := by rw [am_I_wI, if_neg (by omega), am_I_wI, if_pos ⟨rfl, rfl⟩]
            have e44 : (nI (S 15 (4 * m + 3) 0) = nI 44) = (S 15 (4 * m + 3) 0 = 44) := nI_EQ (by have := sO_P hO hlt3; omega) (by decide)
            by_cases cl : m + 1 = 4 ∨ ¬ S 15 (4 * m + 3) 0 = 44
            · have hr : 4 * m + 3 = sFa S := isFa_u ⟨by omega, hok3, fun _ q => by
                rcases cl with cl | cl
                · have := q.1
                  omega
                · rcases q.2 with q | q | q
                  · omega
                  · exact cl q.2
                  · omega⟩
              have hw : ¬ sWh S := fun q => by omega
              refine ⟨_, ?_, hp2, by rw [bI_f hw]; exact g18', fun q => absurd q hw⟩
              rw [← hr]
              by_cases c5 : m + 1 = 4
              · simp only [s134_13, s134_16, s134_17, s134_20, s134_21, s134_22, s134_25, s134_28, s134_29, s134_32, s134_33, s134_34, s134_37, s134_38, s134_41, s134_42, s134_43, s134_44, s134_45, s134_46, s134_47, s134_50, s134_53, s134_54, s134_55, s134_56, s134_57, s134_60, s134_63, s134_64, s134_65, s134_66, s134_67, s134_70, s134_73, s134_74, s134_75, s134_76, s134_79, s134_80, s134_81, s134_82, s134_83, s134_84, s134_85, s134_88, s134_89, s134_90, s134_93, s134_96, s134_97, s134_98, s134_99, s134_102, s134_105, s134_106, s134_109, s134_110, s134_113, s134_114, s134_117, s134_118, s134_121, s134_122, s134_123, s134_126, s134_129, s134_130, s134_133, s134_134, s134_137, s134_138, s134_141, s134_142, s134_143, s134_145, s134_148, s134_149, am_pu_s, am_pu_n, va_rf_s, va_rf_n, Option.bind_some, true_or, or_true, eq_self, if_true, if_false, ite_self, ite_true, ite_false, ↓reduceIte, reduceCtorEq, Nat.reduceEqDiff, Nat.reduceAdd, Nat.reduceLT, Nat.reduceLeDiff, Nat.reduceMul, Nat.reduceSub, not_true_eq_false, not_false_eq_true, and_self, and_true, true_and, and_false, false_and, am_I_wI, am_I_wJ, am_J_wI, am_J_wJ, am_R_wI, am_R_wJ, am_kd_wI, am_kd_wJ, am_ln_wI, am_ln_wJ, am_ix_wI, am_ix_wJ, am_F_wI, am_F_wJ, am_I_wC, am_J_wC, am_R_wC, am_kd_wC, am_ln_wC, am_ix_wC, am_F_wC, hF1, kd66, g19, c4, mR_L h1, e0, cn, rr66_17, ix79 hF1 (show 4 * m < 40 by omega), nI_cl (show 4 * m < 2147483648 by omega), mR_P h1 hlt, m132, ck, nI_add, f1, f2, nI_10, e3, cw, e4, c5]
              · have c6 : ¬ S 15 (4 * m + 3) 0 = 44 := by
                  rcases cl with cl | cl
                  · exact absurd cl c5
                  · exact cl
                simp only [s134_13, s134_16, s134_17, s134_20, s134_21, s134_22, s134_25, s134_28, s134_29, s134_32, s134_33, s134_34, s134_37, s134_38, s134_41, s134_42, s134_43, s134_44, s134_45, s134_46, s134_47, s134_50, s134_53, s134_54, s134_55, s134_56, s134_57, s134_60, s134_63, s134_64, s134_65, s134_66, s134_67, s134_70, s134_73, s134_74, s134_75, s134_76, s134_79, s134_80, s134_81, s134_82, s134_83, s134_84, s134_85, s134_88, s134_89, s134_90, s134_93, s134_96, s134_97, s134_98, s134_99, s134_102, s134_105, s134_106, s134_109, s134_110, s134_113, s134_114, s134_117, s134_118, s134_121, s134_122, s134_123, s134_126, s134_129, s134_130, s134_133, s134_134, s134_137, s134_138, s134_141, s134_142, s134_143, s134_145, s134_148, s134_149, am_pu_s, am_pu_n, va_rf_s, va_rf_n, Option.bind_some, true_or, or_true, eq_self, if_true, if_false, ite_self, ite_true, ite_false, ↓reduceIte, reduceCtorEq, Nat.reduceEqDiff, Nat.reduceAdd, Nat.reduceLT, Nat.reduceLeDiff, Nat.reduceMul, Nat.reduceSub, not_true_eq_false, not_false_eq_true, and_self, and_true, true_and, and_false, false_and, am_I_wI, am_I_wJ, am_J_wI, am_J_wJ, am_R_wI, am_R_wJ, am_kd_wI, am_kd_wJ, am_ln_wI, am_ln_wJ, am_ix_wI, am_ix_wJ, am_F_wI, am_F_wJ, am_I_wC, am_J_wC, am_R_wC, am_kd_wC, am_ln_wC, am_ix_wC, am_F_wC, hF1, kd66, g19, c4, mR_L h1, e0, cn, rr66_17, ix79 hF1 (show 4 * m < 40 by omega), ix79 hF1 (show 4 * m + 3 < 40 by omega), nI_cl (show 4 * m < 2147483648 by omega), nI_cl (show 4 * m + 3 < 2147483648 by omega), mR_P h1 hlt, mR_P h1 hlt3, m132, ck, nI_add, f1, f2, nI_10, e3, cw, e4, c5, e44, c6]
            · have c5 : ¬ m + 1 = 4 := fun q => cl (Or.inl q)
              have c6 : S 15 (4 * m + 3) 0 = 44 := Classical.byContradiction fun q => cl (Or.inr q)
              first
                | exact absurd hm (by omega)
                | obtain ⟨σ', r1, r2⟩ := ih (m + 1) _ (by omega) hp2 g19' g18' (by omega) (fun j hj => by
                    by_cases e : j = 4 * m + 3
                    · rw [e]; exact ⟨by omega, Or.inr (Or.inl ⟨by omega, c6⟩)⟩
                    · exact hok3 j (by omega))
                  refine ⟨σ', ?_, r2⟩
                  rw [show 4 * (m + 1) = 4 * m + 3 + 1 by omega] at r1
                  simp only [s134_13, s134_16, s134_17, s134_20, s134_21, s134_22, s134_25, s134_28, s134_29, s134_32, s134_33, s134_34, s134_37, s134_38, s134_41, s134_42, s134_43, s134_44, s134_45, s134_46, s134_47, s134_50, s134_53, s134_54, s134_55, s134_56, s134_57, s134_60, s134_63, s134_64, s134_65, s134_66, s134_67, s134_70, s134_73, s134_74, s134_75, s134_76, s134_79, s134_80, s134_81, s134_82, s134_83, s134_84, s134_85, s134_88, s134_89, s134_90, s134_93, s134_96, s134_97, s134_98, s134_99, s134_102, s134_105, s134_106, s134_109, s134_110, s134_113, s134_114, s134_117, s134_118, s134_121, s134_122, s134_123, s134_126, s134_129, s134_130, s134_133, s134_134, s134_137, s134_138, s134_141, s134_142, s134_143, s134_145, s134_148, s134_149, s134_150, s134_153, am_pu_s, am_pu_n, va_rf_s, va_rf_n, Option.bind_some, true_or, or_true, eq_self, if_true, if_false, ite_self, ite_true, ite_false, ↓reduceIte, reduceCtorEq, Nat.reduceEqDiff, Nat.reduceAdd, Nat.reduceLT, Nat.reduceLeDiff, Nat.reduceMul, Nat.reduceSub, not_true_eq_false, not_false_eq_true, and_self, and_true, true_and, and_false, false_and, am_I_wI, am_I_wJ, am_J_wI, am_J_wJ, am_R_wI, am_R_wJ, am_kd_wI, am_kd_wJ, am_ln_wI, am_ln_wJ, am_ix_wI, am_ix_wJ, am_F_wI, am_F_wJ, am_I_wC, am_J_wC, am_R_wC, am_kd_wC, am_ln_wC, am_ix_wC, am_F_wC, hF1, kd66, g19, c4, mR_L h1, e0, cn, rr66_17, ix79 hF1 (show 4 * m < 40 by omega), ix79 hF1 (show 4 * m + 3 < 40 by omega), nI_cl (show 4 * m < 2147483648 by omega), nI_cl (show 4 * m + 3 < 2147483648 by omega), mR_P h1 hlt, mR_P h1 hlt3, m132, ck, nI_add, f1, f2, nI_10, e3, cw, e4, c5, e44, c6]
                  exact r1
        · have hr : 4 * m + 2 = sFa S := isFa_u ⟨cf.1, hok2, fun q1 q => by
            rcases q.2 with q | q | q
            · omega
            · omega
            · exact cg ⟨q1, q.2.2⟩⟩
          have hw : ¬ sWh S := fun q => by omega
          rw [bI_f cg] at f2
          refine ⟨σ1, ?_, hp, by rw [bI_f hw]; exact g18, fun q => absurd q hw⟩
          rw [← hr]
          simp only [s134_13, s134_16, s134_17, s134_20, s134_21, s134_22, s134_25, s134_28, s134_29, s134_32, s134_33, s134_34, s134_37, s134_38, s134_41, s134_42, s134_43, s134_44, s134_45, s134_46, s134_47, s134_50, s134_53, s134_54, s134_55, s134_56, s134_57, s134_60, s134_63, s134_64, s134_65, s134_66, s134_67, s134_70, s134_73, s134_74, s134_75, s134_76, s134_79, s134_80, s134_81, s134_82, am_pu_s, am_pu_n, va_rf_s, va_rf_n, Option.bind_some, true_or, or_true, eq_self, if_true, if_false, ite_self, ite_true, ite_false, ↓reduceIte, reduceCtorEq, Nat.reduceEqDiff, Nat.reduceAdd, Nat.reduceLT, Nat.reduceLeDiff, Nat.reduceMul, Nat.reduceSub, not_true_eq_false, not_false_eq_true, and_self, and_true, true_and, and_false, false_and, hF1, kd66, g19, c4, mR_L h1, e0, cn, rr66_17, ix79 hF1 (show 4 * m < 40 by omega), nI_cl (show 4 * m < 2147483648 by omega), mR_P h1 hlt, m132, ck, nI_add, f1, f2, nI_10]
      · have hr : 4 * m + 1 = sFa S := isFa_u ⟨by omega, hok1, fun q1 q => by
          rcases q.2 with q | q | q
          · omega
          · omega
          · exact cf ⟨q1, q.2.2⟩⟩
        have hw : ¬ sWh S := fun q => by omega
        rw [bI_f cf] at f1
        refine ⟨σ1, ?_, hp, by rw [bI_f hw]; exact g18, fun q => absurd q hw⟩
        rw [← hr]
        simp only [s134_13, s134_16, s134_17, s134_20, s134_21, s134_22, s134_25, s134_28, s134_29, s134_32, s134_33, s134_34, s134_37, s134_38, s134_41, s134_42, s134_43, s134_44, s134_45, s134_46, s134_47, s134_50, s134_53, s134_54, s134_55, s134_56, s134_57, s134_60, s134_63, s134_64, s134_65, s134_66, s134_67, s134_70, s134_73, s134_74, s134_75, s134_76, s134_79, s134_80, s134_81, s134_82, am_pu_s, am_pu_n, va_rf_s, va_rf_n, Option.bind_some, true_or, or_true, eq_self, if_true, if_false, ite_self, ite_true, ite_false, ↓reduceIte, reduceCtorEq, Nat.reduceEqDiff, Nat.reduceAdd, Nat.reduceLT, Nat.reduceLeDiff, Nat.reduceMul, Nat.reduceSub, not_true_eq_false, not_false_eq_true, and_self, and_true, true_and, and_false, false_and, hF1, kd66, g19, c4, mR_L h1, e0, cn, rr66_17, ix79 hF1 (show 4 * m < 40 by omega), nI_cl (show 4 * m < 2147483648 by omega), mR_P h1 hlt, m132, ck, nI_add, f1]
  have hp2 : am_pr nsA σ (am_wI (am_wI σ 66 18 (nI 0)) 66 19 (nI 0)) := ((am_pr.rf hF).w (by rfl)).w (by rfl)
  obtain ⟨σ', r1, r2⟩ := loop 3 0 _ (by omega) hp2 (by rw [am_I_wI, if_pos ⟨rfl, rfl⟩]) (by rw [am_I_wI, if_neg (by omega), am_I_wI, if_pos ⟨rfl, rfl⟩]) (by omega) (fun j hj => absurd hj (by omega))
  refine ⟨σ', ?_, r2⟩
  rw [s134]
  simp only [s134_0, s134_1, s134_2, s134_5, s134_6, s134_7, s134_10, s134_11, am_pu_s, am_pu_n, va_rf_s, va_rf_n, Option.bind_some, true_or, or_true, eq_self, if_true, if_false, ite_self, ite_true, ite_false, ↓reduceIte, reduceCtorEq, Nat.reduceEqDiff, Nat.reduceAdd, Nat.reduceLT, Nat.reduceLeDiff, Nat.reduceMul, Nat.reduceSub, not_true_eq_false, not_false_eq_true, and_self, and_true, true_and, and_false, false_and, am_I_wI, am_I_wJ, am_J_wI, am_J_wJ, am_R_wI, am_R_wJ, am_kd_wI, am_kd_wJ, am_ln_wI, am_ln_wJ, am_ix_wI, am_ix_wJ, am_F_wI, am_F_wJ, am_I_wC, am_J_wC, am_R_wC, am_kd_wC, am_ln_wC, am_ix_wC, am_F_wC, hF, kd66]
  exact r1
theorem c135 (h : mRep S σ) (hO : sOK N S) : ∃ σ', am_v X (d + 4) 135 [.ref (66 : Nat)] σ = some (some (.int (nI (sFa S))), σ') ∧ am_pr nsA σ σ' := by
  obtain ⟨σ', r1, r2, _⟩ := m134 (X := X) (d := d) h hO
  refine ⟨σ', ?_, r2⟩
  rw [s135]
  simp only [s135_0, s135_1, s135_4, am_pu_s, am_pu_n, va_rf_s, va_rf_n, Option.bind_some, true_or, or_true, eq_self, if_true, if_false, ite_self, ite_true, ite_false, ↓reduceIte, reduceCtorEq, Nat.reduceEqDiff, Nat.reduceAdd, Nat.reduceLT, Nat.reduceLeDiff, Nat.reduceMul, Nat.reduceSub, not_true_eq_false, not_false_eq_true, and_self, and_true, true_and, and_false, false_and, h.1, kd66, r1]
end RO
