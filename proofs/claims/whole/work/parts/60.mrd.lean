/-! the reader of the model -/
def mCo (T : am_T) (σ : am_M) : Prop := am_F σ ∧ (am_I σ 66 24 = nI (T 0 0) ∧ am_I σ 66 25 = nI (T 6 0) ∧ am_I σ 66 28 = nI (T 4 0) ∧ am_I σ 66 31 = nI (T 7 0) ∧ am_I σ 66 32 = nI (T 8 0)) ∧ (∀ j, j < T 7 0 → am_I σ 84 j = nI (T 9 j)) ∧ ∀ j, j < T 0 0 → am_I σ 80 j = nI (if T 11 j = 0 then 60 else 91) ∧ am_I σ 81 j = nI (if T 11 j = 0 then 1 else T 11 j) ∧ am_I σ 82 j = nI (T 10 j) ∧ am_I σ 83 j = nI (T 12 j)
def mMo (T : am_T) (σ : am_M) : Prop := am_I σ 66 26 = nI (T 1 0) ∧ (T 1 0 = 0 → am_I σ 66 27 = nI (1 - T 5 0)) ∧ (T 1 0 = 1 → am_I σ 66 29 = nI (T 3 0)) ∧ (2 ≤ T 1 0 → am_I σ 66 30 = nI (T 2 0))
def mRd (T : am_T) (σ : am_M) : Prop := mCo T σ ∧ mMo T σ
def mKe (σ σ' : am_M) : Prop := (∀ k, (k = 26 ∨ k = 27 ∨ k = 29 ∨ k = 30) → am_I σ' 66 k = am_I σ 66 k) ∧ ∀ a k, (a = 80 ∨ a = 81 ∨ a = 82 ∨ a = 83) → am_I σ' a k = am_I σ a k
theorem mKe.rf (σ : am_M) : mKe σ σ := ⟨fun _ _ => rfl, fun _ _ _ => rfl⟩
theorem mKe.tr {σ σ1 σ2 : am_M} (h1 : mKe σ σ1) (h2 : mKe σ1 σ2) : mKe σ σ2 := ⟨fun k q => (h2.1 k q).trans (h1.1 k q), fun a k q => (h2.2 a k q).trans (h1.2 a k q)⟩
theorem mKe.w {σ σ1 : am_M} {o k : Nat} {v : Int32} (h1 : mKe σ σ1) (h : ¬ (o = 66 ∧ (k = 26 ∨ k = 27 ∨ k = 29 ∨ k = 30))) (h' : ¬ (o = 80 ∨ o = 81 ∨ o = 82 ∨ o = 83)) : mKe σ (am_wI σ1 o k v) := by
  refine ⟨fun j q => ?_, fun a j q => ?_⟩
  · rw [am_I_wI, if_neg (fun e => h ⟨e.1.symm, by rw [← e.2]; exact q⟩)]
    exact h1.1 j q
  · rw [am_I_wI, if_neg (fun e => h' (by rw [← e.1]; exact q))]
    exact h1.2 a j q
section MD
variable {X : am_X} {d N k : Nat} {σ : am_M} {T : am_T}
theorem mCo_add {b : Nat} (h : mCo T σ) (h60 : T 7 0 ≤ 60) : ∃ σ', am_v X (d + 1) 136 [.ref (66 : Nat), .int (nI b)] σ = some (none, σ') ∧ mCo (tAdd T b) σ' ∧ am_pr nsA σ σ' ∧ mKe σ σ' := by
  obtain ⟨hF, ⟨c0, c6, c4, c7, c8⟩, cb, cs⟩ := h
  have e60 : (nI (T 7 0) = nI 60) = (T 7 0 = 60) := nI_EQ (by omega) (by decide)
  unfold tAdd
  rw [s136]
  by_cases c : T 7 0 < 60
  · rw [if_pos c]
    have c' : ¬ T 7 0 = 60 := by omega
    refine ⟨am_wI (am_wI σ 84 (T 7 0) (nI b)) 66 31 (nI (T 7 0 + 1)), ?_, ⟨hF, ⟨?_, ?_, ?_, ?_, ?_⟩, fun j hj => ?_, fun j hj => ?_⟩, ((am_pr.rf hF).w (by rfl)).w (by rfl), ((mKe.rf σ).w (by omega) (by omega)).w (by omega) (by omega)⟩
    · simp only [s136_0, s136_1, s136_4, s136_6, s136_9, s136_10, s136_11, s136_14, s136_17, s136_18, s136_21, s136_22, s136_25, s136_26, s136_27, s136_28, s136_29, s136_32, s136_33, s136_34, s136_37, am_pu_s, am_pu_n, va_rf_s, va_rf_n, Option.bind_some, true_or, or_true, eq_self, if_true, if_false, ite_self, ite_true, ite_false, ↓reduceIte, reduceCtorEq, Nat.reduceEqDiff, Nat.reduceAdd, Nat.reduceLT, Nat.reduceLeDiff, Nat.reduceMul, Nat.reduceSub, not_true_eq_false, not_false_eq_true, and_self, and_true, true_and, and_false, false_and, am_I_wI, am_I_wJ, am_J_wI, am_J_wJ, am_R_wI, am_R_wJ, am_kd_wI, am_kd_wJ, am_ln_wI, am_ln_wJ, am_ix_wI, am_ix_wJ, am_F_wI, am_F_wJ, am_I_wC, am_J_wC, am_R_wC, am_kd_wC, am_ln_wC, am_ix_wC, am_F_wC, hF, kd66, rr66_33, c7, e60, c', ix84 hF c, nI_cl (show T 7 0 < 2147483648 by omega), nI_add]
    · simp only [am_I_wI, am_pu_s, am_pu_n, va_rf_s, va_rf_n, Option.bind_some, true_or, or_true, eq_self, if_true, if_false, ite_self, ite_true, ite_false, ↓reduceIte, reduceCtorEq, Nat.reduceEqDiff, Nat.reduceAdd, Nat.reduceLT, Nat.reduceLeDiff, Nat.reduceMul, Nat.reduceSub, not_true_eq_false, not_false_eq_true, and_self, and_true, true_and, and_false, false_and]; exact c0
    · simp only [am_I_wI, am_pu_s, am_pu_n, va_rf_s, va_rf_n, Option.bind_some, true_or, or_true, eq_self, if_true, if_false, ite_self, ite_true, ite_false, ↓reduceIte, reduceCtorEq, Nat.reduceEqDiff, Nat.reduceAdd, Nat.reduceLT, Nat.reduceLeDiff, Nat.reduceMul, Nat.reduceSub, not_true_eq_false, not_false_eq_true, and_self, and_true, true_and, and_false, false_and]; exact c6
    · simp only [am_I_wI, am_pu_s, am_pu_n, va_rf_s, va_rf_n, Option.bind_some, true_or, or_true, eq_self, if_true, if_false, ite_self, ite_true, ite_false, ↓reduceIte, reduceCtorEq, Nat.reduceEqDiff, Nat.reduceAdd, Nat.reduceLT, Nat.reduceLeDiff, Nat.reduceMul, Nat.reduceSub, not_true_eq_false, not_false_eq_true, and_self, and_true, true_and, and_false, false_and]; exact c4
    · simp only [am_I_wI, am_pu_s, am_pu_n, va_rf_s, va_rf_n, Option.bind_some, true_or, or_true, eq_self, if_true, if_false, ite_self, ite_true, ite_false, ↓reduceIte, reduceCtorEq, Nat.reduceEqDiff, Nat.reduceAdd, Nat.reduceLT, Nat.reduceLeDiff, Nat.reduceMul, Nat.reduceSub, not_true_eq_false, not_false_eq_true, and_self, and_true, true_and, and_false, false_and]; rfl
    · simp only [am_I_wI, am_pu_s, am_pu_n, va_rf_s, va_rf_n, Option.bind_some, true_or, or_true, eq_self, if_true, if_false, ite_self, ite_true, ite_false, ↓reduceIte, reduceCtorEq, Nat.reduceEqDiff, Nat.reduceAdd, Nat.reduceLT, Nat.reduceLeDiff, Nat.reduceMul, Nat.reduceSub, not_true_eq_false, not_false_eq_true, and_self, and_true, true_and, and_false, false_and]; exact c8
    · have hj' : j < T 7 0 + 1 := hj
      rw [am_I_wI, if_neg (by omega), tW_n (by decide)]
      by_cases e : j = T 7 0
      · rw [e, am_I_wI, if_pos ⟨rfl, rfl⟩, tW_e]
      · rw [am_I_wI, if_neg (by omega), tW_m e]
        exact cb j (by omega)
    · simp only [am_I_wI, am_pu_s, am_pu_n, va_rf_s, va_rf_n, Option.bind_some, true_or, or_true, eq_self, if_true, if_false, ite_self, ite_true, ite_false, ↓reduceIte, reduceCtorEq, Nat.reduceEqDiff, Nat.reduceAdd, Nat.reduceLT, Nat.reduceLeDiff, Nat.reduceMul, Nat.reduceSub, not_true_eq_false, not_false_eq_true, and_self, and_true, true_and, and_false, false_and]
      exact cs j hj
  · rw [if_neg c]
    have c' : T 7 0 = 60 := by omega
    have t : (nI (T 7 0) = nI 60) = True := by rw [e60]; exact eq_true c'
    refine ⟨am_wI σ 66 32 (nI 1), ?_, ⟨hF, ⟨?_, ?_, ?_, ?_, ?_⟩, fun j hj => ?_, fun j hj => ?_⟩, (am_pr.rf hF).w (by rfl), (mKe.rf σ).w (by omega) (by omega)⟩
    · simp only [s136_0, s136_1, s136_4, s136_6, s136_9, s136_10, s136_11, s136_14, s136_17, s136_18, s136_21, s136_22, s136_25, s136_26, s136_27, s136_28, s136_29, s136_32, s136_33, s136_34, s136_37, am_pu_s, am_pu_n, va_rf_s, va_rf_n, Option.bind_some, true_or, or_true, eq_self, if_true, if_false, ite_self, ite_true, ite_false, ↓reduceIte, reduceCtorEq, Nat.reduceEqDiff, Nat.reduceAdd, Nat.reduceLT, Nat.reduceLeDiff, Nat.reduceMul, Nat.reduceSub, not_true_eq_false, not_false_eq_true, and_self, and_true, true_and, and_false, false_and, am_I_wI, am_I_wJ, am_J_wI, am_J_wJ, am_R_wI, am_R_wJ, am_kd_wI, am_kd_wJ, am_ln_wI, am_ln_wJ, am_ix_wI, am_ix_wJ, am_F_wI, am_F_wJ, am_I_wC, am_J_wC, am_R_wC, am_kd_wC, am_ln_wC, am_ix_wC, am_F_wC, hF, kd66, c7, t]
    · simp only [am_I_wI, am_pu_s, am_pu_n, va_rf_s, va_rf_n, Option.bind_some, true_or, or_true, eq_self, if_true, if_false, ite_self, ite_true, ite_false, ↓reduceIte, reduceCtorEq, Nat.reduceEqDiff, Nat.reduceAdd, Nat.reduceLT, Nat.reduceLeDiff, Nat.reduceMul, Nat.reduceSub, not_true_eq_false, not_false_eq_true, and_self, and_true, true_and, and_false, false_and]; exact c0
    · simp only [am_I_wI, am_pu_s, am_pu_n, va_rf_s, va_rf_n, Option.bind_some, true_or, or_true, eq_self, if_true, if_false, ite_self, ite_true, ite_false, ↓reduceIte, reduceCtorEq, Nat.reduceEqDiff, Nat.reduceAdd, Nat.reduceLT, Nat.reduceLeDiff, Nat.reduceMul, Nat.reduceSub, not_true_eq_false, not_false_eq_true, and_self, and_true, true_and, and_false, false_and]; exact c6
    · simp only [am_I_wI, am_pu_s, am_pu_n, va_rf_s, va_rf_n, Option.bind_some, true_or, or_true, eq_self, if_true, if_false, ite_self, ite_true, ite_false, ↓reduceIte, reduceCtorEq, Nat.reduceEqDiff, Nat.reduceAdd, Nat.reduceLT, Nat.reduceLeDiff, Nat.reduceMul, Nat.reduceSub, not_true_eq_false, not_false_eq_true, and_self, and_true, true_and, and_false, false_and]; exact c4
    · simp only [am_I_wI, am_pu_s, am_pu_n, va_rf_s, va_rf_n, Option.bind_some, true_or, or_true, eq_self, if_true, if_false, ite_self, ite_true, ite_false, ↓reduceIte, reduceCtorEq, Nat.reduceEqDiff, Nat.reduceAdd, Nat.reduceLT, Nat.reduceLeDiff, Nat.reduceMul, Nat.reduceSub, not_true_eq_false, not_false_eq_true, and_self, and_true, true_and, and_false, false_and]; exact c7
    · simp only [am_I_wI, am_pu_s, am_pu_n, va_rf_s, va_rf_n, Option.bind_some, true_or, or_true, eq_self, if_true, if_false, ite_self, ite_true, ite_false, ↓reduceIte, reduceCtorEq, Nat.reduceEqDiff, Nat.reduceAdd, Nat.reduceLT, Nat.reduceLeDiff, Nat.reduceMul, Nat.reduceSub, not_true_eq_false, not_false_eq_true, and_self, and_true, true_and, and_false, false_and]; rfl
    · simp only [am_I_wI, am_pu_s, am_pu_n, va_rf_s, va_rf_n, Option.bind_some, true_or, or_true, eq_self, if_true, if_false, ite_self, ite_true, ite_false, ↓reduceIte, reduceCtorEq, Nat.reduceEqDiff, Nat.reduceAdd, Nat.reduceLT, Nat.reduceLeDiff, Nat.reduceMul, Nat.reduceSub, not_true_eq_false, not_false_eq_true, and_self, and_true, true_and, and_false, false_and]; exact cb j hj
    · simp only [am_I_wI, am_pu_s, am_pu_n, va_rf_s, va_rf_n, Option.bind_some, true_or, or_true, eq_self, if_true, if_false, ite_self, ite_true, ite_false, ↓reduceIte, reduceCtorEq, Nat.reduceEqDiff, Nat.reduceAdd, Nat.reduceLT, Nat.reduceLeDiff, Nat.reduceMul, Nat.reduceSub, not_true_eq_false, not_false_eq_true, and_self, and_true, true_and, and_false, false_and]; exact cs j hj
theorem m137 {b : Nat} (h : mCo T σ) (hB : tB T) (h4 : T 4 0 ≤ 40) (hb : b < 128) : ∃ σ', am_v X (d + 2) 137 [.ref (66 : Nat), .int (nI b)] σ = some (none, σ') ∧ mCo (tFin T b) σ' ∧ am_pr nsA σ σ' ∧ am_I σ' 66 27 = nI 0 ∧ am_I σ' 66 26 = am_I σ 66 26 := by
  have hF := h.1
  have e1 := m128 (X := X) (d := d) (σ := σ) hb (show T 4 0 < 64 by omega)
  obtain ⟨σ1, e2, h1, p1, k1⟩ := mCo_add (X := X) (d := d) (b := sRa b (T 4 0)) h hB.1
  obtain ⟨hF1, ⟨c0, c6, c4, c7, c8⟩, cb, cs⟩ := h1
  refine ⟨am_wI (am_wI σ1 66 28 (nI 0)) 66 27 (nI 0), ?_, ⟨hF1, ⟨?_, ?_, ?_, ?_, ?_⟩, fun j hj => ?_, fun j hj => ?_⟩, p1.tr (((am_pr.rf hF1).w (by rfl)).w (by rfl)), ?_, ?_⟩
  · rw [s137]
    simp only [s137_0, s137_1, s137_2, s137_3, s137_6, s137_9, s137_12, s137_13, s137_14, s137_17, s137_18, s137_19, s137_22, am_pu_s, am_pu_n, va_rf_s, va_rf_n, Option.bind_some, true_or, or_true, eq_self, if_true, if_false, ite_self, ite_true, ite_false, ↓reduceIte, reduceCtorEq, Nat.reduceEqDiff, Nat.reduceAdd, Nat.reduceLT, Nat.reduceLeDiff, Nat.reduceMul, Nat.reduceSub, not_true_eq_false, not_false_eq_true, and_self, and_true, true_and, and_false, false_and, am_I_wI, am_I_wJ, am_J_wI, am_J_wJ, am_R_wI, am_R_wJ, am_kd_wI, am_kd_wJ, am_ln_wI, am_ln_wJ, am_ix_wI, am_ix_wJ, am_F_wI, am_F_wJ, am_I_wC, am_J_wC, am_R_wC, am_kd_wC, am_ln_wC, am_ix_wC, am_F_wC, hF, hF1, kd66, h.2.1.2.2.1, e1, e2]
  · simp only [am_I_wI, am_pu_s, am_pu_n, va_rf_s, va_rf_n, Option.bind_some, true_or, or_true, eq_self, if_true, if_false, ite_self, ite_true, ite_false, ↓reduceIte, reduceCtorEq, Nat.reduceEqDiff, Nat.reduceAdd, Nat.reduceLT, Nat.reduceLeDiff, Nat.reduceMul, Nat.reduceSub, not_true_eq_false, not_false_eq_true, and_self, and_true, true_and, and_false, false_and]; exact c0
  · simp only [am_I_wI, am_pu_s, am_pu_n, va_rf_s, va_rf_n, Option.bind_some, true_or, or_true, eq_self, if_true, if_false, ite_self, ite_true, ite_false, ↓reduceIte, reduceCtorEq, Nat.reduceEqDiff, Nat.reduceAdd, Nat.reduceLT, Nat.reduceLeDiff, Nat.reduceMul, Nat.reduceSub, not_true_eq_false, not_false_eq_true, and_self, and_true, true_and, and_false, false_and]; exact c6
  · simp only [am_I_wI, am_pu_s, am_pu_n, va_rf_s, va_rf_n, Option.bind_some, true_or, or_true, eq_self, if_true, if_false, ite_self, ite_true, ite_false, ↓reduceIte, reduceCtorEq, Nat.reduceEqDiff, Nat.reduceAdd, Nat.reduceLT, Nat.reduceLeDiff, Nat.reduceMul, Nat.reduceSub, not_true_eq_false, not_false_eq_true, and_self, and_true, true_and, and_false, false_and]; rfl
  · simp only [am_I_wI, am_pu_s, am_pu_n, va_rf_s, va_rf_n, Option.bind_some, true_or, or_true, eq_self, if_true, if_false, ite_self, ite_true, ite_false, ↓reduceIte, reduceCtorEq, Nat.reduceEqDiff, Nat.reduceAdd, Nat.reduceLT, Nat.reduceLeDiff, Nat.reduceMul, Nat.reduceSub, not_true_eq_false, not_false_eq_true, and_self, and_true, true_and, and_false, false_and]; exact c7
  · simp only [am_I_wI, am_pu_s, am_pu_n, va_rf_s, va_rf_n, Option.bind_some, true_or, or_true, eq_self, if_true, if_false, ite_self, ite_true, ite_false, ↓reduceIte, reduceCtorEq, Nat.reduceEqDiff, Nat.reduceAdd, Nat.reduceLT, Nat.reduceLeDiff, Nat.reduceMul, Nat.reduceSub, not_true_eq_false, not_false_eq_true, and_self, and_true, true_and, and_false, false_and]; exact c8
  · simp only [am_I_wI, am_pu_s, am_pu_n, va_rf_s, va_rf_n, Option.bind_some, true_or, or_true, eq_self, if_true, if_false, ite_self, ite_true, ite_false, ↓reduceIte, reduceCtorEq, Nat.reduceEqDiff, Nat.reduceAdd, Nat.reduceLT, Nat.reduceLeDiff, Nat.reduceMul, Nat.reduceSub, not_true_eq_false, not_false_eq_true, and_self, and_true, true_and, and_false, false_and]; exact cb j hj
  · simp only [am_I_wI, am_pu_s, am_pu_n, va_rf_s, va_rf_n, Option.bind_some, true_or, or_true, eq_self, if_true, if_false, ite_self, ite_true, ite_false, ↓reduceIte, reduceCtorEq, Nat.reduceEqDiff, Nat.reduceAdd, Nat.reduceLT, Nat.reduceLeDiff, Nat.reduceMul, Nat.reduceSub, not_true_eq_false, not_false_eq_true, and_self, and_true, true_and, and_false, false_and]; exact cs j hj
  · simp only [am_I_wI, am_pu_s, am_pu_n, va_rf_s, va_rf_n, Option.bind_some, true_or, or_true, eq_self, if_true, if_false, ite_self, ite_true, ite_false, ↓reduceIte, reduceCtorEq, Nat.reduceEqDiff, Nat.reduceAdd, Nat.reduceLT, Nat.reduceLeDiff, Nat.reduceMul, Nat.reduceSub, not_true_eq_false, not_false_eq_true, and_self, and_true, true_and, and_false, false_and]
  · simp only [am_I_wI, am_pu_s, am_pu_n, va_rf_s, va_rf_n, Option.bind_some, true_or, or_true, eq_self, if_true, if_false, ite_self, ite_true, ite_false, ↓reduceIte, reduceCtorEq, Nat.reduceEqDiff, Nat.reduceAdd, Nat.reduceLT, Nat.reduceLeDiff, Nat.reduceMul, Nat.reduceSub, not_true_eq_false, not_false_eq_true, and_self, and_true, true_and, and_false, false_and]; exact k1.1 26 (by omega)
theorem m138 {s : Nat} (h : mCo T σ) (hO : tOK T k) (hk : k < 40) : ∃ σ', am_v X (d + 1) 138 [.ref (66 : Nat), .int (nI (if s = 0 then 60 else 91)), .int (nI (if s = 0 then 1 else s))] σ = some (none, σ') ∧ mCo (tOp T s) σ' ∧ am_pr nsA σ σ' ∧ am_I σ' 66 27 = nI 1 ∧ am_I σ' 66 26 = am_I σ 66 26 := by
  obtain ⟨hF, ⟨c0, c6, c4, c7, c8⟩, cb, cs⟩ := h
  obtain ⟨⟨a0, a1, a4, a5, a6⟩, h2, h3, h5, hB, hs⟩ := hO
  have ho : T 0 0 < 40 := by omega
  generalize hsg : (if s = 0 then 60 else 91) = sg
  generalize hof : (if s = 0 then 1 else s) = of
  have hp : am_pr nsA σ (am_wI (am_wI (am_wI (am_wI (am_wI (am_wI (am_wI (am_wI σ 80 (T 0 0) (nI sg)) 81 (T 0 0) (nI of)) 82 (T 0 0) (nI (T 7 0))) 83 (T 0 0) (nI (T 4 0))) 66 24 (nI (T 0 0 + 1))) 66 25 (nI (max (T 6 0) (T 0 0 + 1)))) 66 28 (nI 0)) 66 27 (nI 1)) := ((((((((am_pr.rf hF).w (by rfl)).w (by rfl)).w (by rfl)).w (by rfl)).w (by rfl)).w (by rfl)).w (by rfl)).w (by rfl)
  refine ⟨(am_wI (am_wI (am_wI (am_wI (am_wI (am_wI (am_wI (am_wI σ 80 (T 0 0) (nI sg)) 81 (T 0 0) (nI of)) 82 (T 0 0) (nI (T 7 0))) 83 (T 0 0) (nI (T 4 0))) 66 24 (nI (T 0 0 + 1))) 66 25 (nI (max (T 6 0) (T 0 0 + 1)))) 66 28 (nI 0)) 66 27 (nI 1)), ?_, ⟨hF, ⟨?_, ?_, ?_, ?_, ?_⟩, fun j hj => ?_, fun j hj => ?_⟩, hp, ?_, ?_⟩
  · have e0 := ix80 hF ho
    have e1 := ix81 hF ho
    have e2 := ix82 hF ho
    have e3 := ix83 hF ho
    rw [s138]
    by_cases c : T 0 0 + 1 ≤ T 6 0
    · have t : nI (T 0 0 + 1) ≤ nI (T 6 0) := nI_le c (by omega)
      have m : max (T 6 0) (T 0 0 + 1) = T 6 0 := by omega
      rw [m]
      simp only [s138_0, s138_1, s138_4, s138_5, s138_8, s138_9, s138_10, s138_11, s138_14, s138_15, s138_18, s138_19, s138_20, s138_21, s138_24, s138_25, s138_28, s138_29, s138_32, s138_33, s138_34, s138_37, s138_38, s138_41, s138_42, s138_45, s138_46, s138_47, s138_48, s138_51, s138_52, s138_53, s138_56, s138_57, s138_58, s138_61, s138_62, s138_65, s138_68, s138_69, s138_72, s138_75, s138_76, s138_79, s138_82, s138_83, s138_84, s138_87, s138_88, s138_89, s138_92, am_pu_s, am_pu_n, va_rf_s, va_rf_n, Option.bind_some, true_or, or_true, eq_self, if_true, if_false, ite_self, ite_true, ite_false, ↓reduceIte, reduceCtorEq, Nat.reduceEqDiff, Nat.reduceAdd, Nat.reduceLT, Nat.reduceLeDiff, Nat.reduceMul, Nat.reduceSub, not_true_eq_false, not_false_eq_true, and_self, and_true, true_and, and_false, false_and, am_I_wI, am_I_wJ, am_J_wI, am_J_wJ, am_R_wI, am_R_wJ, am_kd_wI, am_kd_wJ, am_ln_wI, am_ln_wJ, am_ix_wI, am_ix_wJ, am_F_wI, am_F_wJ, am_I_wC, am_J_wC, am_R_wC, am_kd_wC, am_ln_wC, am_ix_wC, am_F_wC, hF, kd66, rr66_20, rr66_21, rr66_22, rr66_23, c0, c4, c6, c7, t, e0, e1, e2, e3, nI_cl (show T 0 0 < 2147483648 by omega), nI_add]
    · have t : ¬ nI (T 0 0 + 1) ≤ nI (T 6 0) := nI_ge (by omega) (by omega)
      have m : max (T 6 0) (T 0 0 + 1) = T 0 0 + 1 := by omega
      rw [m]
      simp only [s138_0, s138_1, s138_4, s138_5, s138_8, s138_9, s138_10, s138_11, s138_14, s138_15, s138_18, s138_19, s138_20, s138_21, s138_24, s138_25, s138_28, s138_29, s138_32, s138_33, s138_34, s138_37, s138_38, s138_41, s138_42, s138_45, s138_46, s138_47, s138_48, s138_51, s138_52, s138_53, s138_56, s138_57, s138_58, s138_61, s138_62, s138_65, s138_68, s138_69, s138_72, s138_75, s138_76, s138_79, s138_82, s138_83, s138_84, s138_87, s138_88, s138_89, s138_92, am_pu_s, am_pu_n, va_rf_s, va_rf_n, Option.bind_some, true_or, or_true, eq_self, if_true, if_false, ite_self, ite_true, ite_false, ↓reduceIte, reduceCtorEq, Nat.reduceEqDiff, Nat.reduceAdd, Nat.reduceLT, Nat.reduceLeDiff, Nat.reduceMul, Nat.reduceSub, not_true_eq_false, not_false_eq_true, and_self, and_true, true_and, and_false, false_and, am_I_wI, am_I_wJ, am_J_wI, am_J_wJ, am_R_wI, am_R_wJ, am_kd_wI, am_kd_wJ, am_ln_wI, am_ln_wJ, am_ix_wI, am_ix_wJ, am_F_wI, am_F_wJ, am_I_wC, am_J_wC, am_R_wC, am_kd_wC, am_ln_wC, am_ix_wC, am_F_wC, hF, kd66, rr66_20, rr66_21, rr66_22, rr66_23, c0, c4, c6, c7, t, e0, e1, e2, e3, nI_cl (show T 0 0 < 2147483648 by omega), nI_add]
  · simp only [am_I_wI, am_pu_s, am_pu_n, va_rf_s, va_rf_n, Option.bind_some, true_or, or_true, eq_self, if_true, if_false, ite_self, ite_true, ite_false, ↓reduceIte, reduceCtorEq, Nat.reduceEqDiff, Nat.reduceAdd, Nat.reduceLT, Nat.reduceLeDiff, Nat.reduceMul, Nat.reduceSub, not_true_eq_false, not_false_eq_true, and_self, and_true, true_and, and_false, false_and]; rfl
  · simp only [am_I_wI, am_pu_s, am_pu_n, va_rf_s, va_rf_n, Option.bind_some, true_or, or_true, eq_self, if_true, if_false, ite_self, ite_true, ite_false, ↓reduceIte, reduceCtorEq, Nat.reduceEqDiff, Nat.reduceAdd, Nat.reduceLT, Nat.reduceLeDiff, Nat.reduceMul, Nat.reduceSub, not_true_eq_false, not_false_eq_true, and_self, and_true, true_and, and_false, false_and]; rfl
  · simp only [am_I_wI, am_pu_s, am_pu_n, va_rf_s, va_rf_n, Option.bind_some, true_or, or_true, eq_self, if_true, if_false, ite_self, ite_true, ite_false, ↓reduceIte, reduceCtorEq, Nat.reduceEqDiff, Nat.reduceAdd, Nat.reduceLT, Nat.reduceLeDiff, Nat.reduceMul, Nat.reduceSub, not_true_eq_false, not_false_eq_true, and_self, and_true, true_and, and_false, false_and]; rfl
  · simp only [am_I_wI, am_pu_s, am_pu_n, va_rf_s, va_rf_n, Option.bind_some, true_or, or_true, eq_self, if_true, if_false, ite_self, ite_true, ite_false, ↓reduceIte, reduceCtorEq, Nat.reduceEqDiff, Nat.reduceAdd, Nat.reduceLT, Nat.reduceLeDiff, Nat.reduceMul, Nat.reduceSub, not_true_eq_false, not_false_eq_true, and_self, and_true, true_and, and_false, false_and]; exact c7
  · simp only [am_I_wI, am_pu_s, am_pu_n, va_rf_s, va_rf_n, Option.bind_some, true_or, or_true, eq_self, if_true, if_false, ite_self, ite_true, ite_false, ↓reduceIte, reduceCtorEq, Nat.reduceEqDiff, Nat.reduceAdd, Nat.reduceLT, Nat.reduceLeDiff, Nat.reduceMul, Nat.reduceSub, not_true_eq_false, not_false_eq_true, and_self, and_true, true_and, and_false, false_and]; exact c8
  · simp only [am_I_wI, am_pu_s, am_pu_n, va_rf_s, va_rf_n, Option.bind_some, true_or, or_true, eq_self, if_true, if_false, ite_self, ite_true, ite_false, ↓reduceIte, reduceCtorEq, Nat.reduceEqDiff, Nat.reduceAdd, Nat.reduceLT, Nat.reduceLeDiff, Nat.reduceMul, Nat.reduceSub, not_true_eq_false, not_false_eq_true, and_self, and_true, true_and, and_false, false_and]; exact cb j hj
  · have hj' : j < T 0 0 + 1 := hj
    simp only [am_I_wI, am_pu_s, am_pu_n, va_rf_s, va_rf_n, Option.bind_some, true_or, or_true, eq_self, if_true, if_false, ite_self, ite_true, ite_false, ↓reduceIte, reduceCtorEq, Nat.reduceEqDiff, Nat.reduceAdd, Nat.reduceLT, Nat.reduceLeDiff, Nat.reduceMul, Nat.reduceSub, not_true_eq_false, not_false_eq_true, and_self, and_true, true_and, and_false, false_and]
    show (if j = T 0 0 then nI sg else am_I σ 80 j) = nI (if (if 11 = 11 ∧ j = T 0 0 then s else T 11 j) = 0 then 60 else 91) ∧ (if j = T 0 0 then nI of else am_I σ 81 j) = nI (if (if 11 = 11 ∧ j = T 0 0 then s else T 11 j) = 0 then 1 else (if 11 = 11 ∧ j = T 0 0 then s else T 11 j)) ∧ (if j = T 0 0 then nI (T 7 0) else am_I σ 82 j) = nI (if 10 = 10 ∧ j = T 0 0 then T 7 0 else T 10 j) ∧ (if j = T 0 0 then nI (T 4 0) else am_I σ 83 j) = nI (if 12 = 12 ∧ j = T 0 0 then T 4 0 else T 12 j)
    by_cases e : j = T 0 0
    · have x10 : (if 10 = 10 ∧ j = T 0 0 then T 7 0 else T 10 j) = T 7 0 := if_pos ⟨rfl, e⟩
      have x11 : (if 11 = 11 ∧ j = T 0 0 then s else T 11 j) = s := if_pos ⟨rfl, e⟩
      have x12 : (if 12 = 12 ∧ j = T 0 0 then T 4 0 else T 12 j) = T 4 0 := if_pos ⟨rfl, e⟩
      rw [if_pos e, if_pos e, if_pos e, if_pos e, x10, x11, x12, ← hsg, ← hof]
      exact ⟨rfl, rfl, rfl, rfl⟩
    · have x10 : (if 10 = 10 ∧ j = T 0 0 then T 7 0 else T 10 j) = T 10 j := if_neg fun q => e q.2
      have x11 : (if 11 = 11 ∧ j = T 0 0 then s else T 11 j) = T 11 j := if_neg fun q => e q.2
      have x12 : (if 12 = 12 ∧ j = T 0 0 then T 4 0 else T 12 j) = T 12 j := if_neg fun q => e q.2
      rw [if_neg e, if_neg e, if_neg e, if_neg e, x10, x11, x12]
      exact cs j (by omega)
  · simp only [am_I_wI, am_pu_s, am_pu_n, va_rf_s, va_rf_n, Option.bind_some, true_or, or_true, eq_self, if_true, if_false, ite_self, ite_true, ite_false, ↓reduceIte, reduceCtorEq, Nat.reduceEqDiff, Nat.reduceAdd, Nat.reduceLT, Nat.reduceLeDiff, Nat.reduceMul, Nat.reduceSub, not_true_eq_false, not_false_eq_true, and_self, and_true, true_and, and_false, false_and]
  · simp only [am_I_wI, am_pu_s, am_pu_n, va_rf_s, va_rf_n, Option.bind_some, true_or, or_true, eq_self, if_true, if_false, ite_self, ite_true, ite_false, ↓reduceIte, reduceCtorEq, Nat.reduceEqDiff, Nat.reduceAdd, Nat.reduceLT, Nat.reduceLeDiff, Nat.reduceMul, Nat.reduceSub, not_true_eq_false, not_false_eq_true, and_self, and_true, true_and, and_false, false_and]
theorem mCo_w9 {i b : Nat} (h : mCo T σ) (hi : i < 60) : mCo (tW T 9 i b) (am_wI σ 84 i (nI b)) ∧ am_pr nsA σ (am_wI σ 84 i (nI b)) ∧ mKe σ (am_wI σ 84 i (nI b)) := by
  obtain ⟨hF, ⟨c0, c6, c4, c7, c8⟩, cb, cs⟩ := h
  refine ⟨⟨hF, ⟨?_, ?_, ?_, ?_, ?_⟩, fun j hj => ?_, fun j hj => ?_⟩, (am_pr.rf hF).w (by rfl), (mKe.rf σ).w (by omega) (by omega)⟩
  · simp only [am_I_wI, am_pu_s, am_pu_n, va_rf_s, va_rf_n, Option.bind_some, true_or, or_true, eq_self, if_true, if_false, ite_self, ite_true, ite_false, ↓reduceIte, reduceCtorEq, Nat.reduceEqDiff, Nat.reduceAdd, Nat.reduceLT, Nat.reduceLeDiff, Nat.reduceMul, Nat.reduceSub, not_true_eq_false, not_false_eq_true, and_self, and_true, true_and, and_false, false_and]; exact c0
  · simp only [am_I_wI, am_pu_s, am_pu_n, va_rf_s, va_rf_n, Option.bind_some, true_or, or_true, eq_self, if_true, if_false, ite_self, ite_true, ite_false, ↓reduceIte, reduceCtorEq, Nat.reduceEqDiff, Nat.reduceAdd, Nat.reduceLT, Nat.reduceLeDiff, Nat.reduceMul, Nat.reduceSub, not_true_eq_false, not_false_eq_true, and_self, and_true, true_and, and_false, false_and]; exact c6
  · simp only [am_I_wI, am_pu_s, am_pu_n, va_rf_s, va_rf_n, Option.bind_some, true_or, or_true, eq_self, if_true, if_false, ite_self, ite_true, ite_false, ↓reduceIte, reduceCtorEq, Nat.reduceEqDiff, Nat.reduceAdd, Nat.reduceLT, Nat.reduceLeDiff, Nat.reduceMul, Nat.reduceSub, not_true_eq_false, not_false_eq_true, and_self, and_true, true_and, and_false, false_and]; exact c4
  · simp only [am_I_wI, am_pu_s, am_pu_n, va_rf_s, va_rf_n, Option.bind_some, true_or, or_true, eq_self, if_true, if_false, ite_self, ite_true, ite_false, ↓reduceIte, reduceCtorEq, Nat.reduceEqDiff, Nat.reduceAdd, Nat.reduceLT, Nat.reduceLeDiff, Nat.reduceMul, Nat.reduceSub, not_true_eq_false, not_false_eq_true, and_self, and_true, true_and, and_false, false_and]; exact c7
  · simp only [am_I_wI, am_pu_s, am_pu_n, va_rf_s, va_rf_n, Option.bind_some, true_or, or_true, eq_self, if_true, if_false, ite_self, ite_true, ite_false, ↓reduceIte, reduceCtorEq, Nat.reduceEqDiff, Nat.reduceAdd, Nat.reduceLT, Nat.reduceLeDiff, Nat.reduceMul, Nat.reduceSub, not_true_eq_false, not_false_eq_true, and_self, and_true, true_and, and_false, false_and]; exact c8
  · by_cases e : j = i
    · rw [e, am_I_wI, if_pos ⟨rfl, rfl⟩, tW_e]
    · rw [am_I_wI, if_neg (by omega), tW_m e]
      exact cb j hj
  · simp only [am_I_wI, am_pu_s, am_pu_n, va_rf_s, va_rf_n, Option.bind_some, true_or, or_true, eq_self, if_true, if_false, ite_self, ite_true, ite_false, ↓reduceIte, reduceCtorEq, Nat.reduceEqDiff, Nat.reduceAdd, Nat.reduceLT, Nat.reduceLeDiff, Nat.reduceMul, Nat.reduceSub, not_true_eq_false, not_false_eq_true, and_self, and_true, true_and, and_false, false_and]; exact cs j hj
theorem m139 {a : Nat} (h : mCo T σ) (hB : tB T) (h1 : 1 ≤ T 7 0) (ha : a ≤ T 7 0) : ∃ σ', am_v X (d + 1) 139 [.ref (66 : Nat), .int (nI a)] σ = some (none, σ') ∧ mCo (tTu 60 a (T 7 0 - 1) T) σ' ∧ am_pr nsA σ σ' ∧ mKe σ σ' := by
  have loop : ∀ f i j (T1 : am_T) σ1 l4, j - i ≤ f → i ≤ 60 → j < T1 7 0 → tB T1 → mCo T1 σ1 → am_pr nsA σ σ1 → mKe σ σ1 → ∃ σ', am_w X d 139 9 [some (.ref (66 : Nat)), some (.int (nI a)), some (.int (nI i)), some (.int (nI j)), l4] [] σ1 = some (none, σ') ∧ mCo (tTu f i j T1) σ' ∧ am_pr nsA σ σ' ∧ mKe σ σ' := by
    intro f
    induction f with
    | zero =>
      intro i j T1 σ1 l4 hf hi hj hB1 h1 p1 k1
      have hB60 := hB1.1
      have t : nI j ≤ nI i := nI_le (by omega) (by omega)
      refine ⟨σ1, ?_, h1, p1, k1⟩
      rw [s139_9]
      simp only [s139_10, s139_11, s139_51, am_pu_s, am_pu_n, va_rf_s, va_rf_n, Option.bind_some, true_or, or_true, eq_self, if_true, if_false, ite_self, ite_true, ite_false, ↓reduceIte, reduceCtorEq, Nat.reduceEqDiff, Nat.reduceAdd, Nat.reduceLT, Nat.reduceLeDiff, Nat.reduceMul, Nat.reduceSub, not_true_eq_false, not_false_eq_true, and_self, and_true, true_and, and_false, false_and, t]
    | succ f ih =>
      intro i j T1 σ1 l4 hf hi hj hB1 h1 p1 k1
      have hB60 := hB1.1
      have hF1 := h1.1
      rw [tTu]
      by_cases c : i < j
      · rw [if_pos c]
        have t : ¬ nI j ≤ nI i := nI_ge c (by omega)
        have ri := h1.2.2.1 i (by omega)
        have rj := h1.2.2.1 j hj
        obtain ⟨h2, p2, k2⟩ := mCo_w9 (i := i) (b := T1 9 j) h1 (by omega)
        obtain ⟨h3, p3, k3⟩ := mCo_w9 (i := j) (b := T1 9 i) h2 (by omega)
        obtain ⟨w1, w2⟩ := tSm_sw hB1 (show i < T1 7 0 by omega) hj
        obtain ⟨σ', r1, r2⟩ := ih (i + 1) (j - 1) (tSw T1 i j) _ (some (.int (nI (T1 9 i)))) (by omega) (by omega) (by rw [w2]; omega) w1.2.2 h3 ((p1.tr p2).tr p3) ((k1.tr k2).tr k3)
        refine ⟨σ', ?_, r2⟩
        have e : nI j + (-1) = nI (j - 1) := by
          have := nI_pm (j - 1)
          rw [show j - 1 + 1 = j by omega] at this
          exact this
        rw [s139_9]
        simp only [s139_10, s139_11, s139_14, s139_15, s139_18, s139_19, s139_20, s139_22, s139_23, s139_26, s139_27, s139_28, s139_31, s139_32, s139_33, s139_34, s139_35, s139_38, s139_39, s139_41, s139_42, s139_45, s139_48, am_pu_s, am_pu_n, va_rf_s, va_rf_n, Option.bind_some, true_or, or_true, eq_self, if_true, if_false, ite_self, ite_true, ite_false, ↓reduceIte, reduceCtorEq, Nat.reduceEqDiff, Nat.reduceAdd, Nat.reduceLT, Nat.reduceLeDiff, Nat.reduceMul, Nat.reduceSub, not_true_eq_false, not_false_eq_true, and_self, and_true, true_and, and_false, false_and, hF1, h2.1, kd66, rr66_33, t, ix84 hF1 (show i < 60 by omega), ix84 hF1 (show j < 60 by omega), ix84 h2.1 (show j < 60 by omega), nI_cl (show i < 2147483648 by omega), nI_cl (show j < 2147483648 by omega), ri, rj, nI_add, e]
        exact r1
      · rw [if_neg c]
        have t : nI j ≤ nI i := nI_le (by omega) (by omega)
        refine ⟨σ1, ?_, h1, p1, k1⟩
        rw [s139_9]
        simp only [s139_10, s139_11, s139_51, am_pu_s, am_pu_n, va_rf_s, va_rf_n, Option.bind_some, true_or, or_true, eq_self, if_true, if_false, ite_self, ite_true, ite_false, ↓reduceIte, reduceCtorEq, Nat.reduceEqDiff, Nat.reduceAdd, Nat.reduceLT, Nat.reduceLeDiff, Nat.reduceMul, Nat.reduceSub, not_true_eq_false, not_false_eq_true, and_self, and_true, true_and, and_false, false_and, t]
  have hF := h.1
  have hB60 := hB.1
  obtain ⟨σ', r1, r2⟩ := loop 60 a (T 7 0 - 1) T σ none (by omega) (by omega) (by omega) hB h (am_pr.rf hF) (mKe.rf σ)
  refine ⟨σ', ?_, r2⟩
  rw [s139]
  simp only [s139_0, s139_1, s139_2, s139_3, s139_6, s139_7, s139_8, am_pu_s, am_pu_n, va_rf_s, va_rf_n, Option.bind_some, true_or, or_true, eq_self, if_true, if_false, ite_self, ite_true, ite_false, ↓reduceIte, reduceCtorEq, Nat.reduceEqDiff, Nat.reduceAdd, Nat.reduceLT, Nat.reduceLeDiff, Nat.reduceMul, Nat.reduceSub, not_true_eq_false, not_false_eq_true, and_self, and_true, true_and, and_false, false_and, hF, kd66, h.2.1.2.2.2.1, pk_sub h1]
  exact r1
/-- the rest of closes: behind what is turned about -/
theorem m140b {a n o : Nat} {σ0 : am_M} (h : mCo T σ) (hB : tB T) (ha : a ≤ T 7 0) (hn : n ≤ 4) (hn1 : 1 ≤ n) (ho : o < 40) (hT0 : T 0 0 = o) (hp0 : am_pr nsA σ0 σ) (hk0 : mKe σ0 σ) (r81 : am_I σ0 81 o = nI n) : ∃ σ' l3 l4, am_w X (d + 2) 140 39 [some (.ref (66 : Nat)), some (.int (nI a)), none, none, none] [] σ = am_w X (d + 2) 140 91 [some (.ref (66 : Nat)), some (.int (nI a)), some (.int (nI (T 7 0))), l3, l4] [] σ' ∧ mCo (tRp T a n) σ' ∧ am_pr nsA σ0 σ' ∧ mKe σ0 σ' := by
  have hB60 := hB.1
  have inner : ∀ t (T1 : am_T) l5 σ1, t < n → (mCo T1 σ1 ∧ tSm T T1 ∧ am_pr nsA σ0 σ1 ∧ mKe σ0 σ1) → ∃ σ', am_w X (d + 2) 140 46 [some (.ref (66 : Nat)), some (.int (nI a)), some (.int (nI (T 7 0))), some (.int (nI t)), l5] [] σ1 = am_w X (d + 2) 140 46 [some (.ref (66 : Nat)), some (.int (nI a)), some (.int (nI (T 7 0))), some (.int (nI (t + 1))), some (.int (nI (T 7 0)))] [] σ' ∧ (mCo (am_fd (fun k T2 => tAdd T2 (T2 9 k)) a (T 7 0 - a) T1) σ' ∧ tSm T (am_fd (fun k T2 => tAdd T2 (T2 9 k)) a (T 7 0 - a) T1) ∧ am_pr nsA σ0 σ' ∧ mKe σ0 σ') := by
    intro t T1 l5 σ1 ht hp
    obtain ⟨σ2, e2, p2⟩ := am_lps (fun k (_ : am_T) σ2 => am_w X (d + 2) 140 62 [some (.ref (66 : Nat)), some (.int (nI a)), some (.int (nI (T 7 0))), some (.int (nI t)), some (.int (nI k))] [] σ2) (fun k T2 => tAdd T2 (T2 9 k)) (T 7 0) (fun _ T2 σ2 => mCo T2 σ2 ∧ tSm T T2 ∧ am_pr nsA σ0 σ2 ∧ mKe σ0 σ2) (fun k T2 σ2 hk hp2 => by
      obtain ⟨g1, g2, g3, g4⟩ := hp2
      have hl := g2.2.1
      have hB2 := g2.2.2
      have hB260 := hB2.1
      obtain ⟨σ3, e3, q1, q2, q3⟩ := mCo_add (X := X) (d := d + 1) (b := T2 9 k) g1 hB2.1
      refine ⟨σ3, ?_, q1, g2.tr (tSm_add hB2 (hB2.2.2 k (by omega))), g3.tr q2, g4.tr q3⟩
      have c0 : ¬ nI (T 7 0) ≤ nI k := nI_ge hk (by omega)
      try dsimp only
      rw [s140_62]
      simp only [s140_64, s140_65, s140_68, s140_69, s140_70, s140_73, s140_75, s140_76, s140_79, s140_82, am_pu_s, am_pu_n, va_rf_s, va_rf_n, Option.bind_some, true_or, or_true, eq_self, if_true, if_false, ite_self, ite_true, ite_false, ↓reduceIte, reduceCtorEq, Nat.reduceEqDiff, Nat.reduceAdd, Nat.reduceLT, Nat.reduceLeDiff, Nat.reduceMul, Nat.reduceSub, not_true_eq_false, not_false_eq_true, and_self, and_true, true_and, and_false, false_and, g1.1, kd66, rr66_33, c0, ix84 g1.1 (show k < 60 by omega), nI_cl (show k < 2147483648 by omega), g1.2.2.1 k (by omega), e3, nI_add]) (T 7 0 - a) a T1 σ1 (by omega) hp
    refine ⟨σ2, ?_, p2⟩
    obtain ⟨g1, g2, g3, g4⟩ := hp
    have c0 : ¬ nI n ≤ nI t := nI_ge ht (by omega)
    have r24 := g1.2.1.1
    rw [g2.1 0 0 (by decide) (by decide) (by decide), hT0] at r24
    have r81' : am_I σ1 81 o = nI n := by rw [g4.2 81 o (by omega)]; exact r81
    rw [s140_46]
    simp only [s140_47, s140_48, s140_51, s140_52, s140_55, s140_56, s140_59, s140_60, am_pu_s, am_pu_n, va_rf_s, va_rf_n, Option.bind_some, true_or, or_true, eq_self, if_true, if_false, ite_self, ite_true, ite_false, ↓reduceIte, reduceCtorEq, Nat.reduceEqDiff, Nat.reduceAdd, Nat.reduceLT, Nat.reduceLeDiff, Nat.reduceMul, Nat.reduceSub, not_true_eq_false, not_false_eq_true, and_self, and_true, true_and, and_false, false_and, g1.1, kd66, rr66_21, r24, ix81 g1.1 ho, nI_cl (show o < 2147483648 by omega), r81', c0]
    refine Eq.trans e2 ?_
    try dsimp only
    rw [s140_62]
    simp only [s140_64, s140_65, s140_85, s140_88, am_pu_s, am_pu_n, va_rf_s, va_rf_n, Option.bind_some, true_or, or_true, eq_self, if_true, if_false, ite_self, ite_true, ite_false, ↓reduceIte, reduceCtorEq, Nat.reduceEqDiff, Nat.reduceAdd, Nat.reduceLT, Nat.reduceLeDiff, Nat.reduceMul, Nat.reduceSub, not_true_eq_false, not_false_eq_true, and_self, and_true, true_and, and_false, false_and, Int32.le_refl, nI_add]
  have hF := h.1
  obtain ⟨σ2, e2, p2⟩ := am_lps (fun t (q : am_T × Option Value) σ2 => am_w X (d + 2) 140 46 [some (.ref (66 : Nat)), some (.int (nI a)), some (.int (nI (T 7 0))), some (.int (nI t)), q.2] [] σ2) (fun _ q => (am_fd (fun k T2 => tAdd T2 (T2 9 k)) a (T 7 0 - a) q.1, some (.int (nI (T 7 0))))) n (fun _ q σ2 => mCo q.1 σ2 ∧ tSm T q.1 ∧ am_pr nsA σ0 σ2 ∧ mKe σ0 σ2) (fun t q σ2 ht hp => inner t q.1 q.2 σ2 ht hp) (n - 1) 1 (T, none) σ (by omega) ⟨h, tSm.rf hB, hp0, hk0⟩
  have f2 := am_fd_fst (fun (_ : Nat) T1 => am_fd (fun k T2 => tAdd T2 (T2 9 k)) a (T 7 0 - a) T1) (some (Value.int (nI (T 7 0)))) (n - 1) 1 (T, none)
  dsimp only at p2 f2 e2
  rw [f2] at p2
  generalize (am_fd (fun (_ : Nat) (q : am_T × Option Value) => (am_fd (fun k T2 => tAdd T2 (T2 9 k)) a (T 7 0 - a) q.1, some (Value.int (nI (T 7 0))))) 1 (n - 1) (T, none)).2 = l4 at e2
  obtain ⟨g1, g2, g3, g4⟩ := p2
  refine ⟨σ2, some (.int (nI n)), l4, ?_, g1, g3, g4⟩
  simp only [s140_39, s140_40, s140_43, s140_44, s140_45, am_pu_s, am_pu_n, va_rf_s, va_rf_n, Option.bind_some, true_or, or_true, eq_self, if_true, if_false, ite_self, ite_true, ite_false, ↓reduceIte, reduceCtorEq, Nat.reduceEqDiff, Nat.reduceAdd, Nat.reduceLT, Nat.reduceLeDiff, Nat.reduceMul, Nat.reduceSub, not_true_eq_false, not_false_eq_true, and_self, and_true, true_and, and_false, false_and, hF, kd66, h.2.1.2.2.2.1]
  refine Eq.trans e2 ?_
  have r24 := g1.2.1.1
  rw [g2.1 0 0 (by decide) (by decide) (by decide), hT0] at r24
  have r81' : am_I σ2 81 o = nI n := by rw [g4.2 81 o (by omega)]; exact r81
  rw [s140_46]
  simp only [s140_47, s140_48, s140_51, s140_52, s140_55, s140_56, am_pu_s, am_pu_n, va_rf_s, va_rf_n, Option.bind_some, true_or, or_true, eq_self, if_true, if_false, ite_self, ite_true, ite_false, ↓reduceIte, reduceCtorEq, Nat.reduceEqDiff, Nat.reduceAdd, Nat.reduceLT, Nat.reduceLeDiff, Nat.reduceMul, Nat.reduceSub, not_true_eq_false, not_false_eq_true, and_self, and_true, true_and, and_false, false_and, g1.1, kd66, rr66_21, r24, ix81 g1.1 ho, nI_cl (show o < 2147483648 by omega), r81', Int32.le_refl]
theorem tRp_1 (T : am_T) (a : Nat) : tRp T a 1 = T := rfl
theorem m140 (h : mCo T σ) (hO : tOK T k) (hk : k < 40) (h51 : T 5 0 = 1) (h0 : 0 < T 0 0) : ∃ σ', am_v X (d + 3) 140 [.ref (66 : Nat)] σ = some (none, σ') ∧ mCo (tCl T) σ' ∧ am_pr nsA σ σ' ∧ am_I σ' 66 27 = nI 0 ∧ am_I σ' 66 26 = am_I σ 66 26 := by
  have h' := h
  obtain ⟨hF, ⟨c0, c6, c4, c7, c8⟩, cb, cs⟩ := h'
  obtain ⟨⟨a0, a1, a4, a5, a6⟩, h2, h3, h5, hB, hs⟩ := hO
  obtain ⟨g1, g2, g3⟩ := h5 h51
  obtain ⟨o, ho⟩ : ∃ o, T 0 0 = o + 1 := ⟨T 0 0 - 1, by omega⟩
  have ho1 : T 0 0 - 1 = o := by omega
  have ho40 : o < 40 := by omega
  have hB60 := hB.1
  obtain ⟨r80, r81, r82, r83⟩ := cs o (by omega)
  obtain ⟨q5, q6, q61, q7⟩ := hs o (by omega)
  have hC1 : mCo (tC1 T) (am_wI σ 66 24 (nI o)) := by
    refine ⟨hF, ⟨?_, ?_, ?_, ?_, ?_⟩, fun j hj => ?_, fun j hj => ?_⟩
    · simp only [am_I_wI, am_pu_s, am_pu_n, va_rf_s, va_rf_n, Option.bind_some, true_or, or_true, eq_self, if_true, if_false, ite_self, ite_true, ite_false, ↓reduceIte, reduceCtorEq, Nat.reduceEqDiff, Nat.reduceAdd, Nat.reduceLT, Nat.reduceLeDiff, Nat.reduceMul, Nat.reduceSub, not_true_eq_false, not_false_eq_true, and_self, and_true, true_and, and_false, false_and]; rw [← ho1]; rfl
    · simp only [am_I_wI, am_pu_s, am_pu_n, va_rf_s, va_rf_n, Option.bind_some, true_or, or_true, eq_self, if_true, if_false, ite_self, ite_true, ite_false, ↓reduceIte, reduceCtorEq, Nat.reduceEqDiff, Nat.reduceAdd, Nat.reduceLT, Nat.reduceLeDiff, Nat.reduceMul, Nat.reduceSub, not_true_eq_false, not_false_eq_true, and_self, and_true, true_and, and_false, false_and]; exact c6
    · simp only [am_I_wI, am_pu_s, am_pu_n, va_rf_s, va_rf_n, Option.bind_some, true_or, or_true, eq_self, if_true, if_false, ite_self, ite_true, ite_false, ↓reduceIte, reduceCtorEq, Nat.reduceEqDiff, Nat.reduceAdd, Nat.reduceLT, Nat.reduceLeDiff, Nat.reduceMul, Nat.reduceSub, not_true_eq_false, not_false_eq_true, and_self, and_true, true_and, and_false, false_and]; exact c4
    · simp only [am_I_wI, am_pu_s, am_pu_n, va_rf_s, va_rf_n, Option.bind_some, true_or, or_true, eq_self, if_true, if_false, ite_self, ite_true, ite_false, ↓reduceIte, reduceCtorEq, Nat.reduceEqDiff, Nat.reduceAdd, Nat.reduceLT, Nat.reduceLeDiff, Nat.reduceMul, Nat.reduceSub, not_true_eq_false, not_false_eq_true, and_self, and_true, true_and, and_false, false_and]; exact c7
    · simp only [am_I_wI, am_pu_s, am_pu_n, va_rf_s, va_rf_n, Option.bind_some, true_or, or_true, eq_self, if_true, if_false, ite_self, ite_true, ite_false, ↓reduceIte, reduceCtorEq, Nat.reduceEqDiff, Nat.reduceAdd, Nat.reduceLT, Nat.reduceLeDiff, Nat.reduceMul, Nat.reduceSub, not_true_eq_false, not_false_eq_true, and_self, and_true, true_and, and_false, false_and]; exact c8
    · simp only [am_I_wI, am_pu_s, am_pu_n, va_rf_s, va_rf_n, Option.bind_some, true_or, or_true, eq_self, if_true, if_false, ite_self, ite_true, ite_false, ↓reduceIte, reduceCtorEq, Nat.reduceEqDiff, Nat.reduceAdd, Nat.reduceLT, Nat.reduceLeDiff, Nat.reduceMul, Nat.reduceSub, not_true_eq_false, not_false_eq_true, and_self, and_true, true_and, and_false, false_and]; exact cb j hj
    · have hj' : j < T 0 0 - 1 := hj
      simp only [am_I_wI, am_pu_s, am_pu_n, va_rf_s, va_rf_n, Option.bind_some, true_or, or_true, eq_self, if_true, if_false, ite_self, ite_true, ite_false, ↓reduceIte, reduceCtorEq, Nat.reduceEqDiff, Nat.reduceAdd, Nat.reduceLT, Nat.reduceLeDiff, Nat.reduceMul, Nat.reduceSub, not_true_eq_false, not_false_eq_true, and_self, and_true, true_and, and_false, false_and]; exact cs j (by omega)
  have hp1 : am_pr nsA σ (am_wI σ 66 24 (nI o)) := (am_pr.rf hF).w (by rfl)
  have hk1 : mKe σ (am_wI σ 66 24 (nI o)) := (mKe.rf σ).w (by omega) (by omega)
  have hF1 : am_F (am_wI σ 66 24 (nI o)) := hF
  have e4 : nI (o + 1) - nI 1 = nI o := by rw [pk_sub (by omega)]; rfl
  rw [ho] at c0
  have step1 : ∃ σ2 e l3 l4, am_w X (d + 2) 140 0 [some (.ref (66 : Nat)), none, none, none, none] [] σ = am_w X (d + 2) 140 91 [some (.ref (66 : Nat)), some (.int (nI (T 10 o))), some (.int (nI e)), l3, l4] [] σ2 ∧ mCo (tC2 T) σ2 ∧ am_pr nsA σ σ2 ∧ mKe σ σ2 := by
    unfold tC2
    rw [ho1]
    by_cases c : T 11 o = 0
    · rw [if_pos c] at r80 r81
      obtain ⟨σ2, e2, h2, p2, k2⟩ := m139 (X := X) (d := d + 1) (a := T 10 o) hC1 (tB_c1 hB) (show 1 ≤ T 7 0 from g3) (show T 10 o ≤ T 7 0 from q5)
      have tt := tSm_tu 60 (T 10 o) (T 7 0 - 1) (tC1 T) (tB_c1 hB) (show T 7 0 - 1 < T 7 0 by omega)
      have t0 : tTu 60 (T 10 o) (T 7 0 - 1) (tC1 T) 0 0 = o := by rw [tt.1.1 0 0 (by decide) (by decide) (by decide)]; exact ho1
      have l7 : T 7 0 ≤ tTu 60 (T 10 o) (T 7 0 - 1) (tC1 T) 7 0 := tt.1.2.1
      obtain ⟨σ3, l3, l4, e3, h3', p3, k3⟩ := m140b (X := X) (d := d) (a := T 10 o) (n := 1) h2 tt.1.2.2 (Nat.le_trans q5 l7) (by decide) (by decide) ho40 t0 (hp1.tr p2) (hk1.tr k2) r81
      rw [tRp_1] at h3'
      refine ⟨σ3, tTu 60 (T 10 o) (T 7 0 - 1) (tC1 T) 7 0, l3, l4, ?_, by rw [if_pos c]; exact h3', p3, k3⟩
      simp only [s140_0, s140_1, s140_2, s140_5, s140_6, s140_7, s140_10, s140_11, s140_14, s140_15, s140_18, s140_19, s140_20, s140_21, s140_24, s140_25, s140_28, s140_29, s140_31, s140_34, s140_35, s140_36, am_pu_s, am_pu_n, va_rf_s, va_rf_n, Option.bind_some, true_or, or_true, eq_self, if_true, if_false, ite_self, ite_true, ite_false, ↓reduceIte, reduceCtorEq, Nat.reduceEqDiff, Nat.reduceAdd, Nat.reduceLT, Nat.reduceLeDiff, Nat.reduceMul, Nat.reduceSub, not_true_eq_false, not_false_eq_true, and_self, and_true, true_and, and_false, false_and, am_I_wI, am_I_wJ, am_J_wI, am_J_wJ, am_R_wI, am_R_wJ, am_kd_wI, am_kd_wJ, am_ln_wI, am_ln_wJ, am_ix_wI, am_ix_wJ, am_F_wI, am_F_wJ, am_I_wC, am_J_wC, am_R_wC, am_kd_wC, am_ln_wC, am_ix_wC, am_F_wC, hF, kd66, rr66_22, rr66_20, c0, e4, ix80 hF ho40, ix82 hF ho40, nI_cl (show o < 2147483648 by omega), r80, r82, e2]
      exact e3
    · rw [if_neg c] at r80 r81
      have n1 : ¬ nI 91 = nI 60 := by decide +kernel
      obtain ⟨σ3, l3, l4, e3, h3', p3, k3⟩ := m140b (X := X) (d := d) (a := T 10 o) (n := T 11 o) hC1 (tB_c1 hB) (show T 10 o ≤ T 7 0 from q5) q6 (by omega) ho40 ho1 hp1 hk1 r81
      refine ⟨σ3, T 7 0, l3, l4, ?_, by rw [if_neg c]; exact h3', p3, k3⟩
      simp only [s140_0, s140_1, s140_2, s140_5, s140_6, s140_7, s140_10, s140_11, s140_14, s140_15, s140_18, s140_19, s140_20, s140_21, s140_24, s140_25, s140_28, s140_29, s140_31, s140_34, s140_35, s140_36, am_pu_s, am_pu_n, va_rf_s, va_rf_n, Option.bind_some, true_or, or_true, eq_self, if_true, if_false, ite_self, ite_true, ite_false, ↓reduceIte, reduceCtorEq, Nat.reduceEqDiff, Nat.reduceAdd, Nat.reduceLT, Nat.reduceLeDiff, Nat.reduceMul, Nat.reduceSub, not_true_eq_false, not_false_eq_true, and_self, and_true, true_and, and_false, false_and, am_I_wI, am_I_wJ, am_J_wI, am_J_wJ, am_R_wI, am_R_wJ, am_kd_wI, am_kd_wJ, am_ln_wI, am_ln_wJ, am_ix_wI, am_ix_wJ, am_F_wI, am_F_wJ, am_I_wC, am_J_wC, am_R_wC, am_kd_wC, am_ln_wC, am_ix_wC, am_F_wC, hF, kd66, rr66_22, rr66_20, c0, e4, ix80 hF ho40, ix82 hF ho40, nI_cl (show o < 2147483648 by omega), r80, r82, n1]
      exact e3
  obtain ⟨σ2, e, l3, l4, e2, h2', p2, k2⟩ := step1
  have s2 := tSm_c2 hB g3
  have z0 : tC2 T 0 0 = o := by
    rw [s2.1 0 0 (by decide) (by decide) (by decide)]
    exact ho1
  have z7 : T 7 0 ≤ tC2 T 7 0 := s2.2.1
  have z60 := s2.2.2.1
  obtain ⟨σ3, e3, p3⟩ := am_lps (fun k (_ : am_T) σ3 => am_w X (d + 2) 140 93 [some (.ref (66 : Nat)), some (.int (nI (T 10 o))), some (.int (nI e)), some (.int (nI k)), l4] [] σ3) (fun k T1 => tW T1 9 k (sRa (T1 9 k) (T 12 o))) (tC2 T 7 0) (fun _ T1 σ3 => mCo T1 σ3 ∧ (tSm (tC2 T) T1 ∧ T1 7 0 = tC2 T 7 0) ∧ am_pr nsA σ σ3 ∧ mKe σ σ3) (fun k T1 σ3 hk hp => by
    obtain ⟨f1, f2, f3, f4⟩ := hp
    have fb := f2.1.2.2.2.2 k (by omega)
    obtain ⟨w1, w2, w3⟩ := mCo_w9 (i := k) (b := sRa (T1 9 k) (T 12 o)) f1 (by omega)
    have t9 := tSm_w9 (i := k) f2.1.2.2 (sRa_lt (x := T 12 o) fb)
    refine ⟨_, ?_, w1, ⟨f2.1.tr t9.1, by rw [t9.2, f2.2]⟩, f3.tr w2, f4.tr w3⟩
    have c0 : ¬ nI (tC2 T 7 0) ≤ nI k := nI_ge hk (by omega)
    have r12 := f1.2.1.2.2.2.1
    rw [f2.2] at r12
    have r4 := f1.2.1.1
    rw [f2.1.1 0 0 (by decide) (by decide) (by decide), z0] at r4
    have r7' : am_I σ3 83 o = nI (T 12 o) := by rw [f4.2 83 o (by omega)]; exact r83
    have e1 := m128 (X := X) (d := d + 1) (σ := σ3) fb (show T 12 o < 64 by omega)
    try dsimp only
    rw [s140_93]
    simp only [s140_94, s140_95, s140_98, s140_101, s140_102, s140_105, s140_106, s140_107, s140_110, s140_111, s140_112, s140_113, s140_116, s140_117, s140_120, s140_121, s140_124, s140_125, s140_128, am_pu_s, am_pu_n, va_rf_s, va_rf_n, Option.bind_some, true_or, or_true, eq_self, if_true, if_false, ite_self, ite_true, ite_false, ↓reduceIte, reduceCtorEq, Nat.reduceEqDiff, Nat.reduceAdd, Nat.reduceLT, Nat.reduceLeDiff, Nat.reduceMul, Nat.reduceSub, not_true_eq_false, not_false_eq_true, and_self, and_true, true_and, and_false, false_and, f1.1, kd66, rr66_33, rr66_23, r12, c0, ix84 f1.1 (show k < 60 by omega), nI_cl (show k < 2147483648 by omega), f1.2.2.1 k (by omega), r4, ix83 f1.1 ho40, nI_cl (show o < 2147483648 by omega), r7', e1, nI_add]) (tC2 T 7 0 - T 10 o) (T 10 o) (tC2 T) σ2 (by omega) ⟨h2', ⟨tSm.rf s2.2.2, rfl⟩, p2, k2⟩
  have e3' : am_fd (fun k T1 => tW T1 9 k (sRa (T1 9 k) (T 12 o))) (T 10 o) (tC2 T 7 0 - T 10 o) (tC2 T) = tCl T := by
    unfold tCl tRi
    rw [ho1]
  rw [e3'] at p3
  obtain ⟨f1, f2, f3, f4⟩ := p3
  have r12 := f1.2.1.2.2.2.1
  rw [f2.2] at r12
  obtain ⟨hF3, ⟨d0, d6, d4, d7, d8⟩, db, ds⟩ := f1
  refine ⟨am_wI σ3 66 27 (nI 0), ?_, ⟨hF3, ⟨?_, ?_, ?_, ?_, ?_⟩, fun j hj => ?_, fun j hj => ?_⟩, f3.w (by rfl), ?_, ?_⟩
  · rw [s140]
    refine Eq.trans e2 ?_
    simp only [s140_91, s140_92, am_pu_s, am_pu_n, va_rf_s, va_rf_n, Option.bind_some, true_or, or_true, eq_self, if_true, if_false, ite_self, ite_true, ite_false, ↓reduceIte, reduceCtorEq, Nat.reduceEqDiff, Nat.reduceAdd, Nat.reduceLT, Nat.reduceLeDiff, Nat.reduceMul, Nat.reduceSub, not_true_eq_false, not_false_eq_true, and_self, and_true, true_and, and_false, false_and]
    refine Eq.trans e3 ?_
    try dsimp only
    rw [s140_93]
    simp only [s140_94, s140_95, s140_98, s140_131, s140_132, s140_133, s140_136, am_pu_s, am_pu_n, va_rf_s, va_rf_n, Option.bind_some, true_or, or_true, eq_self, if_true, if_false, ite_self, ite_true, ite_false, ↓reduceIte, reduceCtorEq, Nat.reduceEqDiff, Nat.reduceAdd, Nat.reduceLT, Nat.reduceLeDiff, Nat.reduceMul, Nat.reduceSub, not_true_eq_false, not_false_eq_true, and_self, and_true, true_and, and_false, false_and, hF3, kd66, r12, Int32.le_refl]
  · simp only [am_I_wI, am_pu_s, am_pu_n, va_rf_s, va_rf_n, Option.bind_some, true_or, or_true, eq_self, if_true, if_false, ite_self, ite_true, ite_false, ↓reduceIte, reduceCtorEq, Nat.reduceEqDiff, Nat.reduceAdd, Nat.reduceLT, Nat.reduceLeDiff, Nat.reduceMul, Nat.reduceSub, not_true_eq_false, not_false_eq_true, and_self, and_true, true_and, and_false, false_and]; exact d0
  · simp only [am_I_wI, am_pu_s, am_pu_n, va_rf_s, va_rf_n, Option.bind_some, true_or, or_true, eq_self, if_true, if_false, ite_self, ite_true, ite_false, ↓reduceIte, reduceCtorEq, Nat.reduceEqDiff, Nat.reduceAdd, Nat.reduceLT, Nat.reduceLeDiff, Nat.reduceMul, Nat.reduceSub, not_true_eq_false, not_false_eq_true, and_self, and_true, true_and, and_false, false_and]; exact d6
  · simp only [am_I_wI, am_pu_s, am_pu_n, va_rf_s, va_rf_n, Option.bind_some, true_or, or_true, eq_self, if_true, if_false, ite_self, ite_true, ite_false, ↓reduceIte, reduceCtorEq, Nat.reduceEqDiff, Nat.reduceAdd, Nat.reduceLT, Nat.reduceLeDiff, Nat.reduceMul, Nat.reduceSub, not_true_eq_false, not_false_eq_true, and_self, and_true, true_and, and_false, false_and]; exact d4
  · simp only [am_I_wI, am_pu_s, am_pu_n, va_rf_s, va_rf_n, Option.bind_some, true_or, or_true, eq_self, if_true, if_false, ite_self, ite_true, ite_false, ↓reduceIte, reduceCtorEq, Nat.reduceEqDiff, Nat.reduceAdd, Nat.reduceLT, Nat.reduceLeDiff, Nat.reduceMul, Nat.reduceSub, not_true_eq_false, not_false_eq_true, and_self, and_true, true_and, and_false, false_and]; exact d7
  · simp only [am_I_wI, am_pu_s, am_pu_n, va_rf_s, va_rf_n, Option.bind_some, true_or, or_true, eq_self, if_true, if_false, ite_self, ite_true, ite_false, ↓reduceIte, reduceCtorEq, Nat.reduceEqDiff, Nat.reduceAdd, Nat.reduceLT, Nat.reduceLeDiff, Nat.reduceMul, Nat.reduceSub, not_true_eq_false, not_false_eq_true, and_self, and_true, true_and, and_false, false_and]; exact d8
  · simp only [am_I_wI, am_pu_s, am_pu_n, va_rf_s, va_rf_n, Option.bind_some, true_or, or_true, eq_self, if_true, if_false, ite_self, ite_true, ite_false, ↓reduceIte, reduceCtorEq, Nat.reduceEqDiff, Nat.reduceAdd, Nat.reduceLT, Nat.reduceLeDiff, Nat.reduceMul, Nat.reduceSub, not_true_eq_false, not_false_eq_true, and_self, and_true, true_and, and_false, false_and]; exact db j hj
  · simp only [am_I_wI, am_pu_s, am_pu_n, va_rf_s, va_rf_n, Option.bind_some, true_or, or_true, eq_self, if_true, if_false, ite_self, ite_true, ite_false, ↓reduceIte, reduceCtorEq, Nat.reduceEqDiff, Nat.reduceAdd, Nat.reduceLT, Nat.reduceLeDiff, Nat.reduceMul, Nat.reduceSub, not_true_eq_false, not_false_eq_true, and_self, and_true, true_and, and_false, false_and]; exact ds j hj
  · simp only [am_I_wI, am_pu_s, am_pu_n, va_rf_s, va_rf_n, Option.bind_some, true_or, or_true, eq_self, if_true, if_false, ite_self, ite_true, ite_false, ↓reduceIte, reduceCtorEq, Nat.reduceEqDiff, Nat.reduceAdd, Nat.reduceLT, Nat.reduceLeDiff, Nat.reduceMul, Nat.reduceSub, not_true_eq_false, not_false_eq_true, and_self, and_true, true_and, and_false, false_and]
  · simp only [am_I_wI, am_pu_s, am_pu_n, va_rf_s, va_rf_n, Option.bind_some, true_or, or_true, eq_self, if_true, if_false, ite_self, ite_true, ite_false, ↓reduceIte, reduceCtorEq, Nat.reduceEqDiff, Nat.reduceAdd, Nat.reduceLT, Nat.reduceLeDiff, Nat.reduceMul, Nat.reduceSub, not_true_eq_false, not_false_eq_true, and_self, and_true, true_and, and_false, false_and]; exact f4.1 26 (by omega)
theorem mCo_k {T' : am_T} {σ' : am_M} (h : mCo T σ) (hF : am_F σ') (hT : ∀ a b, ¬ a = 1 → ¬ a = 2 → ¬ a = 3 → ¬ a = 5 → T' a b = T a b) (hI : ∀ o k, ¬ (o = 66 ∧ (k = 26 ∨ k = 27 ∨ k = 29 ∨ k = 30)) → am_I σ' o k = am_I σ o k) : mCo T' σ' := by
  obtain ⟨_, ⟨c0, c6, c4, c7, c8⟩, cb, cs⟩ := h
  have t7 := hT 7 0 (by decide) (by decide) (by decide) (by decide)
  have t0 := hT 0 0 (by decide) (by decide) (by decide) (by decide)
  refine ⟨hF, ⟨?_, ?_, ?_, ?_, ?_⟩, fun j hj => ?_, fun j hj => ?_⟩
  · rw [hI 66 24 (by omega), t0]; exact c0
  · rw [hI 66 25 (by omega), hT 6 0 (by decide) (by decide) (by decide) (by decide)]; exact c6
  · rw [hI 66 28 (by omega), hT 4 0 (by decide) (by decide) (by decide) (by decide)]; exact c4
  · rw [hI 66 31 (by omega), t7]; exact c7
  · rw [hI 66 32 (by omega), hT 8 0 (by decide) (by decide) (by decide) (by decide)]; exact c8
  · rw [hI 84 j (by omega), hT 9 j (by decide) (by decide) (by decide) (by decide)]; exact cb j (by omega)
  · rw [hI 80 j (by omega), hI 81 j (by omega), hI 82 j (by omega), hI 83 j (by omega), hT 10 j (by decide) (by decide) (by decide) (by decide), hT 11 j (by decide) (by decide) (by decide) (by decide), hT 12 j (by decide) (by decide) (by decide) (by decide)]
    exact cs j (by omega)
abbrev isIt (c : Nat) : Prop := (97 ≤ c ∧ c ≤ 103) ∨ c = 46 ∨ c = 40 ∨ (50 ≤ c ∧ c ≤ 52) ∨ c = 60 ∨ c = 94
theorem m141 {c : Nat} (h : mRd T σ) (hO : tOK T k) (hk : k < 40) (hc : c < 200) (m0 : T 1 0 = 0) (hi : isIt c) : ∃ T' σ', rdS T c = some T' ∧ am_v X (d + 3) 141 [.ref (66 : Nat), .int (nI c)] σ = some (some (.int (nI 1)), σ') ∧ mRd T' σ' ∧ am_pr nsA σ σ' := by
  obtain ⟨hC, hM⟩ := h
  have hF := hC.1
  have hO' := hO
  obtain ⟨⟨a0, a1, a4, a5, a6⟩, h2, h3, h5, hB, hs⟩ := hO'
  have h26 := hM.1
  rw [m0] at h26
  unfold rdS
  rw [if_pos m0, s141]
  by_cases cn : 97 ≤ c ∧ c ≤ 103
  · rw [if_pos cn]
    have hb := (note_b hc).mpr cn
    have e1 : nI c - nI 97 = nI (c - 97) := pk_sub cn.1
    have e2 := b_pw (c - 97) (by omega)
    obtain ⟨σ2, e3, r1, r2, r3, r4⟩ := m137 (X := X) (d := d) (b := 2 ^ (c - 97)) hC hB (by omega) (c_pw _ (by omega))
    refine ⟨_, σ2, rfl, ?_, ⟨r1, ?_, fun _ => r3, fun q => absurd (show 0 = 1 from q) (by decide), fun q => absurd (show 2 ≤ 0 from q) (by decide)⟩, r2⟩
    · simp only [s141_0, s141_1, s141_3, s141_5, s141_8, s141_11, s141_12, s141_13, s141_14, s141_16, s141_17, s141_18, s141_21, s141_22, s141_23, s141_24, s141_92, s141_93, s141_94, s141_97, s141_98, s141_99, s141_100, s141_101, s141_104, s141_105, s141_106, s141_109, s141_110, s141_111, s141_112, s141_113, s141_116, s141_117, s141_118, s141_120, s141_121, s141_124, s141_125, s141_126, s141_127, s141_129, s141_130, s141_133, s141_134, s141_135, s141_136, s141_137, s141_140, s141_141, s141_142, s141_145, s141_146, s141_147, s141_150, s141_151, s141_152, s141_153, am_pu_s, am_pu_n, va_rf_s, va_rf_n, Option.bind_some, true_or, or_true, eq_self, if_true, if_false, ite_self, ite_true, ite_false, ↓reduceIte, reduceCtorEq, Nat.reduceEqDiff, Nat.reduceAdd, Nat.reduceLT, Nat.reduceLeDiff, Nat.reduceMul, Nat.reduceSub, not_true_eq_false, not_false_eq_true, and_self, and_true, true_and, and_false, false_and, hF, kd66, m124, bI_t hb, nI_10, e1, e2, e3]
    · rw [r4, h26]; rfl
  rw [if_neg cn]
  have hb : ¬ (nI 97 ≤ nI c ∧ nI c ≤ nI 103) := fun q => cn ((note_b hc).mp q)
  by_cases k46 : c = 46
  · rw [if_pos k46]
    obtain ⟨σ2, e3, r1, r2, r3, r4⟩ := m137 (X := X) (d := d) (b := 0) hC hB (by omega) (by decide)
    refine ⟨_, σ2, rfl, ?_, ⟨r1, ?_, fun _ => r3, fun q => absurd (show 0 = 1 from q) (by decide), fun q => absurd (show 2 ≤ 0 from q) (by decide)⟩, r2⟩
    · subst k46
      simp only [s141_0, s141_1, s141_3, s141_5, s141_8, s141_11, s141_12, s141_13, s141_14, s141_16, s141_17, s141_18, s141_21, s141_22, s141_23, s141_24, s141_92, s141_93, s141_94, s141_97, s141_98, s141_99, s141_100, s141_101, s141_104, s141_105, s141_106, s141_109, s141_110, s141_111, s141_112, s141_113, s141_116, s141_117, s141_118, s141_120, s141_121, s141_124, s141_125, s141_126, s141_127, s141_129, s141_130, s141_133, s141_134, s141_135, s141_136, s141_137, s141_140, s141_141, s141_142, s141_145, s141_146, s141_147, s141_150, s141_151, s141_152, s141_153, am_pu_s, am_pu_n, va_rf_s, va_rf_n, Option.bind_some, true_or, or_true, eq_self, if_true, if_false, ite_self, ite_true, ite_false, ↓reduceIte, reduceCtorEq, Nat.reduceEqDiff, Nat.reduceAdd, Nat.reduceLT, Nat.reduceLeDiff, Nat.reduceMul, Nat.reduceSub, not_true_eq_false, not_false_eq_true, and_self, and_true, true_and, and_false, false_and, hF, kd66, m124, bI_f hb, nI_EQ, e3]
    · rw [r4, h26]; rfl
  rw [if_neg k46]
  by_cases k40 : c = 40
  · rw [if_pos k40]
    refine ⟨_, am_wI (am_wI σ 66 26 (nI 2)) 66 30 (nI 0), rfl, ?_, ⟨mCo_k hC hF (fun a b q1 q2 q3 q4 => by rw [tW_n q4, tW_n q2, tW_n q1]) (fun o k q => by rw [am_I_wI, if_neg (by omega), am_I_wI, if_neg (by omega)]), ?_, fun q => absurd (show 2 = 0 from q) (by decide), fun q => absurd (show 2 = 1 from q) (by decide), fun _ => ?_⟩, ((am_pr.rf hF).w (by rfl)).w (by rfl)⟩
    · subst k40
      simp only [s141_0, s141_1, s141_3, s141_5, s141_8, s141_11, s141_12, s141_13, s141_14, s141_16, s141_17, s141_18, s141_21, s141_22, s141_23, s141_24, s141_92, s141_93, s141_94, s141_97, s141_98, s141_99, s141_100, s141_101, s141_104, s141_105, s141_106, s141_109, s141_110, s141_111, s141_112, s141_113, s141_116, s141_117, s141_118, s141_120, s141_121, s141_124, s141_125, s141_126, s141_127, s141_129, s141_130, s141_133, s141_134, s141_135, s141_136, s141_137, s141_140, s141_141, s141_142, s141_145, s141_146, s141_147, s141_150, s141_151, s141_152, s141_153, am_pu_s, am_pu_n, va_rf_s, va_rf_n, Option.bind_some, true_or, or_true, eq_self, if_true, if_false, ite_self, ite_true, ite_false, ↓reduceIte, reduceCtorEq, Nat.reduceEqDiff, Nat.reduceAdd, Nat.reduceLT, Nat.reduceLeDiff, Nat.reduceMul, Nat.reduceSub, not_true_eq_false, not_false_eq_true, and_self, and_true, true_and, and_false, false_and, am_I_wI, am_I_wJ, am_J_wI, am_J_wJ, am_R_wI, am_R_wJ, am_kd_wI, am_kd_wJ, am_ln_wI, am_ln_wJ, am_ix_wI, am_ix_wJ, am_F_wI, am_F_wJ, am_I_wC, am_J_wC, am_R_wC, am_kd_wC, am_ln_wC, am_ix_wC, am_F_wC, hF, kd66, m124, bI_f hb, nI_EQ]
    · simp only [am_I_wI, am_pu_s, am_pu_n, va_rf_s, va_rf_n, Option.bind_some, true_or, or_true, eq_self, if_true, if_false, ite_self, ite_true, ite_false, ↓reduceIte, reduceCtorEq, Nat.reduceEqDiff, Nat.reduceAdd, Nat.reduceLT, Nat.reduceLeDiff, Nat.reduceMul, Nat.reduceSub, not_true_eq_false, not_false_eq_true, and_self, and_true, true_and, and_false, false_and]; rfl
    · simp only [am_I_wI, am_pu_s, am_pu_n, va_rf_s, va_rf_n, Option.bind_some, true_or, or_true, eq_self, if_true, if_false, ite_self, ite_true, ite_false, ↓reduceIte, reduceCtorEq, Nat.reduceEqDiff, Nat.reduceAdd, Nat.reduceLT, Nat.reduceLeDiff, Nat.reduceMul, Nat.reduceSub, not_true_eq_false, not_false_eq_true, and_self, and_true, true_and, and_false, false_and]; rfl
  rw [if_neg k40]
  by_cases k50 : 50 ≤ c ∧ c ≤ 52
  · rw [if_pos k50]
    have e1 : nI c - nI 48 = nI (c - 48) := pk_sub (by omega)
    refine ⟨_, am_wI (am_wI σ 66 26 (nI 1)) 66 29 (nI (c - 48)), rfl, ?_, ⟨mCo_k hC hF (fun a b q1 q2 q3 q4 => by rw [tW_n q4, tW_n q3, tW_n q1]) (fun o k q => by rw [am_I_wI, if_neg (by omega), am_I_wI, if_neg (by omega)]), ?_, fun q => absurd (show 1 = 0 from q) (by decide), fun _ => ?_, fun q => absurd (show 2 ≤ 1 from q) (by decide)⟩, ((am_pr.rf hF).w (by rfl)).w (by rfl)⟩
    · have k3 : c = 50 ∨ c = 51 ∨ c = 52 := by omega
      rcases k3 with rfl | rfl | rfl <;> simp only [s141_0, s141_1, s141_3, s141_5, s141_8, s141_11, s141_12, s141_13, s141_14, s141_16, s141_17, s141_18, s141_21, s141_22, s141_23, s141_24, s141_92, s141_93, s141_94, s141_97, s141_98, s141_99, s141_100, s141_101, s141_104, s141_105, s141_106, s141_109, s141_110, s141_111, s141_112, s141_113, s141_116, s141_117, s141_118, s141_120, s141_121, s141_124, s141_125, s141_126, s141_127, s141_129, s141_130, s141_133, s141_134, s141_135, s141_136, s141_137, s141_140, s141_141, s141_142, s141_145, s141_146, s141_147, s141_150, s141_151, s141_152, s141_153, am_pu_s, am_pu_n, va_rf_s, va_rf_n, Option.bind_some, true_or, or_true, eq_self, if_true, if_false, ite_self, ite_true, ite_false, ↓reduceIte, reduceCtorEq, Nat.reduceEqDiff, Nat.reduceAdd, Nat.reduceLT, Nat.reduceLeDiff, Nat.reduceMul, Nat.reduceSub, not_true_eq_false, not_false_eq_true, and_self, and_true, true_and, and_false, false_and, am_I_wI, am_I_wJ, am_J_wI, am_J_wJ, am_R_wI, am_R_wJ, am_kd_wI, am_kd_wJ, am_ln_wI, am_ln_wJ, am_ix_wI, am_ix_wJ, am_F_wI, am_F_wJ, am_I_wC, am_J_wC, am_R_wC, am_kd_wC, am_ln_wC, am_ix_wC, am_F_wC, hF, kd66, m124, bI_f hb, nI_EQ, e1]
    · simp only [am_I_wI, am_pu_s, am_pu_n, va_rf_s, va_rf_n, Option.bind_some, true_or, or_true, eq_self, if_true, if_false, ite_self, ite_true, ite_false, ↓reduceIte, reduceCtorEq, Nat.reduceEqDiff, Nat.reduceAdd, Nat.reduceLT, Nat.reduceLeDiff, Nat.reduceMul, Nat.reduceSub, not_true_eq_false, not_false_eq_true, and_self, and_true, true_and, and_false, false_and]; rfl
    · simp only [am_I_wI, am_pu_s, am_pu_n, va_rf_s, va_rf_n, Option.bind_some, true_or, or_true, eq_self, if_true, if_false, ite_self, ite_true, ite_false, ↓reduceIte, reduceCtorEq, Nat.reduceEqDiff, Nat.reduceAdd, Nat.reduceLT, Nat.reduceLeDiff, Nat.reduceMul, Nat.reduceSub, not_true_eq_false, not_false_eq_true, and_self, and_true, true_and, and_false, false_and]; rfl
  rw [if_neg k50]
  by_cases k60 : c = 60
  · rw [if_pos k60]
    obtain ⟨σ2, e3, r1, r2, r3, r4⟩ := m138 (X := X) (d := d + 1) (s := 0) hC hO hk
    rw [if_pos rfl, if_pos rfl] at e3
    refine ⟨_, σ2, rfl, ?_, ⟨r1, ?_, fun _ => r3, fun q => absurd (show 0 = 1 from q) (by decide), fun q => absurd (show 2 ≤ 0 from q) (by decide)⟩, r2⟩
    · subst k60
      simp only [s141_0, s141_1, s141_3, s141_5, s141_8, s141_11, s141_12, s141_13, s141_14, s141_16, s141_17, s141_18, s141_21, s141_22, s141_23, s141_24, s141_92, s141_93, s141_94, s141_97, s141_98, s141_99, s141_100, s141_101, s141_104, s141_105, s141_106, s141_109, s141_110, s141_111, s141_112, s141_113, s141_116, s141_117, s141_118, s141_120, s141_121, s141_124, s141_125, s141_126, s141_127, s141_129, s141_130, s141_133, s141_134, s141_135, s141_136, s141_137, s141_140, s141_141, s141_142, s141_145, s141_146, s141_147, s141_150, s141_151, s141_152, s141_153, am_pu_s, am_pu_n, va_rf_s, va_rf_n, Option.bind_some, true_or, or_true, eq_self, if_true, if_false, ite_self, ite_true, ite_false, ↓reduceIte, reduceCtorEq, Nat.reduceEqDiff, Nat.reduceAdd, Nat.reduceLT, Nat.reduceLeDiff, Nat.reduceMul, Nat.reduceSub, not_true_eq_false, not_false_eq_true, and_self, and_true, true_and, and_false, false_and, hF, kd66, m124, bI_f hb, nI_EQ, e3]
    · rw [r4, h26]; rfl
  rw [if_neg k60]
  have k94 : c = 94 := by
    rcases hi with q | q | q | q | q | q
    · exact absurd q cn
    · exact absurd q k46
    · exact absurd q k40
    · exact absurd q k50
    · exact absurd q k60
    · exact q
  rw [if_pos k94]
  obtain ⟨_, ⟨c0, c6, c4, c7, c8⟩, cb, cs⟩ := hC
  refine ⟨_, am_wI (am_wI σ 66 28 (nI (T 4 0 + 1))) 66 27 (nI 1), rfl, ?_, ⟨⟨hF, ⟨?_, ?_, ?_, ?_, ?_⟩, fun j hj => ?_, fun j hj => ?_⟩, ?_, fun _ => ?_, fun q => absurd (show T 1 0 = 1 from q) (by omega), fun q => absurd (show 2 ≤ T 1 0 from q) (by omega)⟩, ((am_pr.rf hF).w (by rfl)).w (by rfl)⟩
  · subst k94
    simp only [s141_0, s141_1, s141_3, s141_5, s141_8, s141_11, s141_12, s141_13, s141_14, s141_16, s141_17, s141_18, s141_21, s141_22, s141_23, s141_24, s141_92, s141_93, s141_94, s141_97, s141_98, s141_99, s141_100, s141_101, s141_104, s141_105, s141_106, s141_109, s141_110, s141_111, s141_112, s141_113, s141_116, s141_117, s141_118, s141_120, s141_121, s141_124, s141_125, s141_126, s141_127, s141_129, s141_130, s141_133, s141_134, s141_135, s141_136, s141_137, s141_140, s141_141, s141_142, s141_145, s141_146, s141_147, s141_150, s141_151, s141_152, s141_153, am_pu_s, am_pu_n, va_rf_s, va_rf_n, Option.bind_some, true_or, or_true, eq_self, if_true, if_false, ite_self, ite_true, ite_false, ↓reduceIte, reduceCtorEq, Nat.reduceEqDiff, Nat.reduceAdd, Nat.reduceLT, Nat.reduceLeDiff, Nat.reduceMul, Nat.reduceSub, not_true_eq_false, not_false_eq_true, and_self, and_true, true_and, and_false, false_and, am_I_wI, am_I_wJ, am_J_wI, am_J_wJ, am_R_wI, am_R_wJ, am_kd_wI, am_kd_wJ, am_ln_wI, am_ln_wJ, am_ix_wI, am_ix_wJ, am_F_wI, am_F_wJ, am_I_wC, am_J_wC, am_R_wC, am_kd_wC, am_ln_wC, am_ix_wC, am_F_wC, hF, kd66, m124, bI_f hb, nI_EQ, c4, nI_add]
  · simp only [am_I_wI, am_pu_s, am_pu_n, va_rf_s, va_rf_n, Option.bind_some, true_or, or_true, eq_self, if_true, if_false, ite_self, ite_true, ite_false, ↓reduceIte, reduceCtorEq, Nat.reduceEqDiff, Nat.reduceAdd, Nat.reduceLT, Nat.reduceLeDiff, Nat.reduceMul, Nat.reduceSub, not_true_eq_false, not_false_eq_true, and_self, and_true, true_and, and_false, false_and]; exact c0
  · simp only [am_I_wI, am_pu_s, am_pu_n, va_rf_s, va_rf_n, Option.bind_some, true_or, or_true, eq_self, if_true, if_false, ite_self, ite_true, ite_false, ↓reduceIte, reduceCtorEq, Nat.reduceEqDiff, Nat.reduceAdd, Nat.reduceLT, Nat.reduceLeDiff, Nat.reduceMul, Nat.reduceSub, not_true_eq_false, not_false_eq_true, and_self, and_true, true_and, and_false, false_and]; exact c6
  · simp only [am_I_wI, am_pu_s, am_pu_n, va_rf_s, va_rf_n, Option.bind_some, true_or, or_true, eq_self, if_true, if_false, ite_self, ite_true, ite_false, ↓reduceIte, reduceCtorEq, Nat.reduceEqDiff, Nat.reduceAdd, Nat.reduceLT, Nat.reduceLeDiff, Nat.reduceMul, Nat.reduceSub, not_true_eq_false, not_false_eq_true, and_self, and_true, true_and, and_false, false_and]; rfl
  · simp only [am_I_wI, am_pu_s, am_pu_n, va_rf_s, va_rf_n, Option.bind_some, true_or, or_true, eq_self, if_true, if_false, ite_self, ite_true, ite_false, ↓reduceIte, reduceCtorEq, Nat.reduceEqDiff, Nat.reduceAdd, Nat.reduceLT, Nat.reduceLeDiff, Nat.reduceMul, Nat.reduceSub, not_true_eq_false, not_false_eq_true, and_self, and_true, true_and, and_false, false_and]; exact c7
  · simp only [am_I_wI, am_pu_s, am_pu_n, va_rf_s, va_rf_n, Option.bind_some, true_or, or_true, eq_self, if_true, if_false, ite_self, ite_true, ite_false, ↓reduceIte, reduceCtorEq, Nat.reduceEqDiff, Nat.reduceAdd, Nat.reduceLT, Nat.reduceLeDiff, Nat.reduceMul, Nat.reduceSub, not_true_eq_false, not_false_eq_true, and_self, and_true, true_and, and_false, false_and]; exact c8
  · simp only [am_I_wI, am_pu_s, am_pu_n, va_rf_s, va_rf_n, Option.bind_some, true_or, or_true, eq_self, if_true, if_false, ite_self, ite_true, ite_false, ↓reduceIte, reduceCtorEq, Nat.reduceEqDiff, Nat.reduceAdd, Nat.reduceLT, Nat.reduceLeDiff, Nat.reduceMul, Nat.reduceSub, not_true_eq_false, not_false_eq_true, and_self, and_true, true_and, and_false, false_and]; exact cb j hj
  · simp only [am_I_wI, am_pu_s, am_pu_n, va_rf_s, va_rf_n, Option.bind_some, true_or, or_true, eq_self, if_true, if_false, ite_self, ite_true, ite_false, ↓reduceIte, reduceCtorEq, Nat.reduceEqDiff, Nat.reduceAdd, Nat.reduceLT, Nat.reduceLeDiff, Nat.reduceMul, Nat.reduceSub, not_true_eq_false, not_false_eq_true, and_self, and_true, true_and, and_false, false_and]; exact cs j hj
  · simp only [am_I_wI, am_pu_s, am_pu_n, va_rf_s, va_rf_n, Option.bind_some, true_or, or_true, eq_self, if_true, if_false, ite_self, ite_true, ite_false, ↓reduceIte, reduceCtorEq, Nat.reduceEqDiff, Nat.reduceAdd, Nat.reduceLT, Nat.reduceLeDiff, Nat.reduceMul, Nat.reduceSub, not_true_eq_false, not_false_eq_true, and_self, and_true, true_and, and_false, false_and]; exact hM.1
  · simp only [am_I_wI, am_pu_s, am_pu_n, va_rf_s, va_rf_n, Option.bind_some, true_or, or_true, eq_self, if_true, if_false, ite_self, ite_true, ite_false, ↓reduceIte, reduceCtorEq, Nat.reduceEqDiff, Nat.reduceAdd, Nat.reduceLT, Nat.reduceLeDiff, Nat.reduceMul, Nat.reduceSub, not_true_eq_false, not_false_eq_true, and_self, and_true, true_and, and_false, false_and]; rfl
theorem m141n {c : Nat} (hF : am_F σ) (hc : c < 200) (hi : ¬ isIt c) : am_v X (d + 3) 141 [.ref (66 : Nat), .int (nI c)] σ = some (some (.int (nI 0)), σ) := by
  have E : ∀ x, x < 200 → (nI c = nI x) = (c = x) := fun x hx => nI_EQ (by omega) (by omega)
  have hb : ¬ (nI 97 ≤ nI c ∧ nI c ≤ nI 103) := fun q => hi (Or.inl ((note_b hc).mp q))
  have k1 : ¬ c = 46 ∧ ¬ c = 40 ∧ ¬ c = 50 ∧ ¬ c = 51 ∧ ¬ c = 52 ∧ ¬ c = 60 ∧ ¬ c = 94 := by omega
  rw [s141]
  simp only [s141_0, s141_1, s141_3, s141_5, s141_8, s141_11, s141_12, s141_13, s141_14, s141_16, s141_17, s141_18, s141_21, s141_22, s141_23, s141_24, s141_92, s141_93, s141_94, s141_97, s141_98, s141_99, s141_100, s141_101, s141_104, s141_105, s141_106, s141_109, s141_110, s141_111, s141_112, s141_113, s141_116, s141_117, s141_118, s141_120, s141_121, s141_124, s141_125, s141_126, s141_127, s141_129, s141_130, s141_133, s141_134, s141_135, s141_136, s141_137, s141_140, s141_141, s141_142, s141_145, s141_146, s141_147, s141_150, s141_151, s141_152, s141_153, am_pu_s, am_pu_n, va_rf_s, va_rf_n, Option.bind_some, true_or, or_true, eq_self, if_true, if_false, ite_self, ite_true, ite_false, ↓reduceIte, reduceCtorEq, Nat.reduceEqDiff, Nat.reduceAdd, Nat.reduceLT, Nat.reduceLeDiff, Nat.reduceMul, Nat.reduceSub, not_true_eq_false, not_false_eq_true, and_self, and_true, true_and, and_false, false_and, m124, bI_f hb, E 40 (by decide), E 46 (by decide), E 50 (by decide), E 51 (by decide), E 52 (by decide), E 60 (by decide), E 94 (by decide), k1]
theorem m142 {c : Nat} (h : mRd T σ) (hO : tOK T k) (hk : k < 40) (hc : c < 200) (m0 : T 1 0 = 0) (hi : ¬ isIt c) : ∃ σ', am_v X (d + 4) 142 [.ref (66 : Nat), .int (nI c)] σ = some (some (.int (rBo (rdS T c))), σ') ∧ mRd ((rdS T c).getD T) σ' ∧ am_pr nsA σ σ' := by
  have h' := h
  obtain ⟨hC, hM⟩ := h'
  have hF := hC.1
  have hO' := hO
  obtain ⟨⟨a0, a1, a4, a5, a6⟩, h2, h3, h5, hB, hs⟩ := hO'
  have h26 := hM.1
  rw [m0] at h26
  have h27 := hM.2.1 m0
  obtain ⟨_, ⟨c0, c6, c4, c7, c8⟩, cb, cs⟩ := hC
  have e93 : (nI c = nI 93) = (c = 93) := nI_EQ (by omega) (by decide)
  have e62 : (nI c = nI 62) = (c = 62) := nI_EQ (by omega) (by decide)
  unfold rdS
  rw [if_pos m0, if_neg (fun q => hi (by omega)), if_neg (fun q => hi (by omega)), if_neg (fun q => hi (by omega)), if_neg (fun q => hi (by omega)), if_neg (fun q => hi (by omega)), if_neg (fun q => hi (by omega)), s142]
  have no : ∀ r : Option am_T, r = none → am_w X (d + 3) 142 0 [some (.ref (66 : Nat)), some (.int (nI c)), none] [] σ = some (some (.int (nI 0)), σ) → ∃ σ', am_w X (d + 3) 142 0 [some (.ref (66 : Nat)), some (.int (nI c)), none] [] σ = some (some (.int (rBo r)), σ') ∧ mRd (r.getD T) σ' ∧ am_pr nsA σ σ' := by
    rintro r rfl e
    exact ⟨σ, e, h, am_pr.rf hF⟩
  by_cases g0 : T 0 0 = 0
  · apply no
    · by_cases k93 : c = 93
      · rw [if_pos k93, if_neg (by omega)]
      · by_cases k62 : c = 62
        · rw [if_neg k93, if_pos k62, if_neg (by omega)]
        · rw [if_neg k93, if_neg k62]
    · have t0 : nI (T 0 0) ≤ nI 0 := nI_le (by omega) (by decide)
      simp only [s142_0, s142_1, s142_4, s142_7, s142_8, s142_11, s142_14, s142_15, s142_18, s142_19, s142_22, s142_23, s142_24, s142_25, s142_27, s142_30, s142_31, s142_33, s142_36, s142_37, s142_40, s142_41, s142_44, s142_45, s142_46, s142_47, s142_49, s142_52, s142_53, s142_55, s142_58, s142_59, s142_62, s142_63, s142_64, s142_65, s142_68, s142_69, s142_72, s142_73, am_pu_s, am_pu_n, va_rf_s, va_rf_n, Option.bind_some, true_or, or_true, eq_self, if_true, if_false, ite_self, ite_true, ite_false, ↓reduceIte, reduceCtorEq, Nat.reduceEqDiff, Nat.reduceAdd, Nat.reduceLT, Nat.reduceLeDiff, Nat.reduceMul, Nat.reduceSub, not_true_eq_false, not_false_eq_true, and_self, and_true, true_and, and_false, false_and, hF, kd66, c0, t0]
  have t0 : ¬ nI (T 0 0) ≤ nI 0 := nI_ge (by omega) (by omega)
  by_cases g5 : T 5 0 = 0
  · apply no
    · by_cases k93 : c = 93
      · rw [if_pos k93, if_neg (by omega)]
      · by_cases k62 : c = 62
        · rw [if_neg k93, if_pos k62, if_neg (by omega)]
        · rw [if_neg k93, if_neg k62]
    · rw [g5] at h27
      have n1 : ¬ nI (1 - 0) = nI 0 := by decide +kernel
      simp only [s142_0, s142_1, s142_4, s142_7, s142_8, s142_11, s142_14, s142_15, s142_18, s142_19, s142_22, s142_23, s142_24, s142_25, s142_27, s142_30, s142_31, s142_33, s142_36, s142_37, s142_40, s142_41, s142_44, s142_45, s142_46, s142_47, s142_49, s142_52, s142_53, s142_55, s142_58, s142_59, s142_62, s142_63, s142_64, s142_65, s142_68, s142_69, s142_72, s142_73, am_pu_s, am_pu_n, va_rf_s, va_rf_n, Option.bind_some, true_or, or_true, eq_self, if_true, if_false, ite_self, ite_true, ite_false, ↓reduceIte, reduceCtorEq, Nat.reduceEqDiff, Nat.reduceAdd, Nat.reduceLT, Nat.reduceLeDiff, Nat.reduceMul, Nat.reduceSub, not_true_eq_false, not_false_eq_true, and_self, and_true, true_and, and_false, false_and, hF, kd66, c0, t0, h27, n1]
  have g51 : T 5 0 = 1 := by omega
  rw [g51] at h27
  have n1 : nI (1 - 1) = nI 0 := rfl
  rw [n1] at h27
  have t1 : nI (T 0 0) - nI 1 = nI (T 0 0 - 1) := pk_sub (by omega)
  have s6 := (cs (T 0 0 - 1) (by omega)).1
  have i80 := ix80 hF (show T 0 0 - 1 < 40 by omega)
  have i31 := nI_cl (show T 0 0 - 1 < 2147483648 by omega)
  have n91 : ¬ nI 60 = nI 91 := by decide +kernel
  have n60 : ¬ nI 91 = nI 60 := by decide +kernel
  obtain ⟨σ2, e3, r1, r2, r3, r4⟩ := m140 (X := X) (d := d) ⟨hF, ⟨c0, c6, c4, c7, c8⟩, cb, cs⟩ hO hk g51 (by omega)
  have cl1 : tCl T 1 0 = 0 := by rw [(tSm_cl hB (h5 g51).2.2).1 1 0 (by decide) (by decide) (by decide)]; exact m0
  have cl5 : tCl T 5 0 = 1 := by rw [(tSm_cl hB (h5 g51).2.2).1 5 0 (by decide) (by decide) (by decide)]; exact g51
  have rd : mRd (tCl T) σ2 := ⟨r1, by rw [r4, h26, cl1], fun _ => by rw [r3, cl5], fun q => by rw [cl1] at q; exact absurd q (by decide), fun q => by rw [cl1] at q; exact absurd q (by decide)⟩
  by_cases g6 : T 11 (T 0 0 - 1) = 0
  · rw [if_pos g6] at s6
    by_cases k62 : c = 62
    · rw [if_neg (by omega), if_pos k62, if_pos ⟨g51, by omega, g6⟩]
      have et : (nI c = nI 62) = True := by rw [e62]; exact eq_true k62
      refine ⟨σ2, ?_, rd, r2⟩
      simp only [s142_0, s142_1, s142_4, s142_7, s142_8, s142_11, s142_14, s142_15, s142_18, s142_19, s142_22, s142_23, s142_24, s142_25, s142_27, s142_30, s142_31, s142_33, s142_36, s142_37, s142_40, s142_41, s142_44, s142_45, s142_46, s142_47, s142_49, s142_52, s142_53, s142_55, s142_58, s142_59, s142_62, s142_63, s142_64, s142_65, s142_68, s142_69, s142_72, s142_73, am_pu_s, am_pu_n, va_rf_s, va_rf_n, Option.bind_some, true_or, or_true, eq_self, if_true, if_false, ite_self, ite_true, ite_false, ↓reduceIte, reduceCtorEq, Nat.reduceEqDiff, Nat.reduceAdd, Nat.reduceLT, Nat.reduceLeDiff, Nat.reduceMul, Nat.reduceSub, not_true_eq_false, not_false_eq_true, and_self, and_true, true_and, and_false, false_and, hF, kd66, rr66_20, c0, t0, h27, t1, i80, i31, s6, n91, et, nI_10, e3, rBo]
    · apply no
      · by_cases k93 : c = 93
        · rw [if_pos k93, if_neg (fun q => q.2.2 g6)]
        · rw [if_neg k93, if_neg k62]
      · simp only [s142_0, s142_1, s142_4, s142_7, s142_8, s142_11, s142_14, s142_15, s142_18, s142_19, s142_22, s142_23, s142_24, s142_25, s142_27, s142_30, s142_31, s142_33, s142_36, s142_37, s142_40, s142_41, s142_44, s142_45, s142_46, s142_47, s142_49, s142_52, s142_53, s142_55, s142_58, s142_59, s142_62, s142_63, s142_64, s142_65, s142_68, s142_69, s142_72, s142_73, am_pu_s, am_pu_n, va_rf_s, va_rf_n, Option.bind_some, true_or, or_true, eq_self, if_true, if_false, ite_self, ite_true, ite_false, ↓reduceIte, reduceCtorEq, Nat.reduceEqDiff, Nat.reduceAdd, Nat.reduceLT, Nat.reduceLeDiff, Nat.reduceMul, Nat.reduceSub, not_true_eq_false, not_false_eq_true, and_self, and_true, true_and, and_false, false_and, hF, kd66, rr66_20, c0, t0, h27, t1, i80, i31, s6, n91, e62, k62]
  · rw [if_neg g6] at s6
    by_cases k93 : c = 93
    · rw [if_pos k93, if_pos ⟨g51, by omega, g6⟩]
      have et : (nI c = nI 93) = True := by rw [e93]; exact eq_true k93
      refine ⟨σ2, ?_, rd, r2⟩
      simp only [s142_0, s142_1, s142_4, s142_7, s142_8, s142_11, s142_14, s142_15, s142_18, s142_19, s142_22, s142_23, s142_24, s142_25, s142_27, s142_30, s142_31, s142_33, s142_36, s142_37, s142_40, s142_41, s142_44, s142_45, s142_46, s142_47, s142_49, s142_52, s142_53, s142_55, s142_58, s142_59, s142_62, s142_63, s142_64, s142_65, s142_68, s142_69, s142_72, s142_73, am_pu_s, am_pu_n, va_rf_s, va_rf_n, Option.bind_some, true_or, or_true, eq_self, if_true, if_false, ite_self, ite_true, ite_false, ↓reduceIte, reduceCtorEq, Nat.reduceEqDiff, Nat.reduceAdd, Nat.reduceLT, Nat.reduceLeDiff, Nat.reduceMul, Nat.reduceSub, not_true_eq_false, not_false_eq_true, and_self, and_true, true_and, and_false, false_and, hF, kd66, rr66_20, c0, t0, h27, t1, i80, i31, s6, et, nI_10, e3, rBo]
    · apply no
      · by_cases k62 : c = 62
        · rw [if_neg k93, if_pos k62, if_neg (fun q => g6 q.2.2)]
        · rw [if_neg k93, if_neg k62]
      · simp only [s142_0, s142_1, s142_4, s142_7, s142_8, s142_11, s142_14, s142_15, s142_18, s142_19, s142_22, s142_23, s142_24, s142_25, s142_27, s142_30, s142_31, s142_33, s142_36, s142_37, s142_40, s142_41, s142_44, s142_45, s142_46, s142_47, s142_49, s142_52, s142_53, s142_55, s142_58, s142_59, s142_62, s142_63, s142_64, s142_65, s142_68, s142_69, s142_72, s142_73, am_pu_s, am_pu_n, va_rf_s, va_rf_n, Option.bind_some, true_or, or_true, eq_self, if_true, if_false, ite_self, ite_true, ite_false, ↓reduceIte, reduceCtorEq, Nat.reduceEqDiff, Nat.reduceAdd, Nat.reduceLT, Nat.reduceLeDiff, Nat.reduceMul, Nat.reduceSub, not_true_eq_false, not_false_eq_true, and_self, and_true, true_and, and_false, false_and, hF, kd66, rr66_20, c0, t0, h27, t1, i80, i31, s6, e93, k93, n60]
theorem m145 {c : Nat} (h : mRd T σ) (hO : tOK T k) (hk : k < 40) (hc : c < 200) : ∃ σ', am_v X (d + 5) 145 [.ref (66 : Nat), .int (nI c)] σ = some (some (.int (rBo (rdS T c))), σ') ∧ mRd ((rdS T c).getD T) σ' ∧ am_pr nsA σ σ' := by
  have h' := h
  obtain ⟨hC, hM⟩ := h'
  have hF := hC.1
  have hO' := hO
  obtain ⟨⟨a0, a1, a4, a5, a6⟩, h2, h3, h5, hB, hs⟩ := hO'
  have h26 := hM.1
  have n0 : (nI (T 1 0) = nI 0) = (T 1 0 = 0) := nI_EQ (by omega) (by decide)
  have n1 : (nI (T 1 0) = nI 1) = (T 1 0 = 1) := nI_EQ (by omega) (by decide)
  have n2 : (nI (T 1 0) = nI 2) = (T 1 0 = 2) := nI_EQ (by omega) (by decide)
  by_cases m0 : T 1 0 = 0
  · have n0' : (nI (T 1 0) = nI 0) = True := by rw [n0]; exact eq_true m0
    rw [s145]
    by_cases hi : isIt c
    · obtain ⟨T', σ2, e1, e2, r1, r2⟩ := m141 (X := X) (d := d + 1) h hO hk hc m0 hi
      rw [e1]
      refine ⟨σ2, ?_, r1, r2⟩
      simp only [s145_0, s145_1, s145_4, s145_32, s145_33, s145_34, s145_37, s145_40, s145_41, s145_42, s145_45, s145_48, s145_49, s145_52, s145_53, am_pu_s, am_pu_n, va_rf_s, va_rf_n, Option.bind_some, true_or, or_true, eq_self, if_true, if_false, ite_self, ite_true, ite_false, ↓reduceIte, reduceCtorEq, Nat.reduceEqDiff, Nat.reduceAdd, Nat.reduceLT, Nat.reduceLeDiff, Nat.reduceMul, Nat.reduceSub, not_true_eq_false, not_false_eq_true, and_self, and_true, true_and, and_false, false_and, hF, kd66, h26, n0', e2, nI_10, rBo]
    · have e1 := m141n (X := X) (d := d + 1) hF hc hi
      obtain ⟨σ2, e2, r1, r2⟩ := m142 (X := X) (d := d) h hO hk hc m0 hi
      refine ⟨σ2, ?_, r1, r2⟩
      cases hr : rdS T c with
      | none =>
        rw [hr] at e2
        have e2' : am_v X (d + 4) 142 [.ref (66 : Nat), .int (nI c)] σ = some (some (.int (nI 0)), σ2) := e2
        simp only [s145_0, s145_1, s145_4, s145_32, s145_33, s145_34, s145_37, s145_40, s145_41, s145_42, s145_45, s145_48, s145_49, s145_52, s145_53, am_pu_s, am_pu_n, va_rf_s, va_rf_n, Option.bind_some, true_or, or_true, eq_self, if_true, if_false, ite_self, ite_true, ite_false, ↓reduceIte, reduceCtorEq, Nat.reduceEqDiff, Nat.reduceAdd, Nat.reduceLT, Nat.reduceLeDiff, Nat.reduceMul, Nat.reduceSub, not_true_eq_false, not_false_eq_true, and_self, and_true, true_and, and_false, false_and, hF, kd66, h26, n0', e1, e2', rBo]
      | some q =>
        rw [hr] at e2
        have e2' : am_v X (d + 4) 142 [.ref (66 : Nat), .int (nI c)] σ = some (some (.int (nI 1)), σ2) := e2
        simp only [s145_0, s145_1, s145_4, s145_32, s145_33, s145_34, s145_37, s145_40, s145_41, s145_42, s145_45, s145_48, s145_49, s145_52, s145_53, am_pu_s, am_pu_n, va_rf_s, va_rf_n, Option.bind_some, true_or, or_true, eq_self, if_true, if_false, ite_self, ite_true, ite_false, ↓reduceIte, reduceCtorEq, Nat.reduceEqDiff, Nat.reduceAdd, Nat.reduceLT, Nat.reduceLeDiff, Nat.reduceMul, Nat.reduceSub, not_true_eq_false, not_false_eq_true, and_self, and_true, true_and, and_false, false_and, hF, kd66, h26, n0', e1, e2', nI_10, rBo]
  by_cases m1 : T 1 0 = 1
  · have n1' : (nI (T 1 0) = nI 1) = True := by rw [n1]; exact eq_true m1
    have n0' : ¬ nI (T 1 0) = nI 0 := by rw [n0]; exact m0
    have h29 := hM.2.2.1 m1
    have e91 : (nI c = nI 91) = (c = 91) := nI_EQ (by omega) (by decide)
    have h3' := h3 m1
    unfold rdS
    rw [if_neg m0, if_pos m1, s145]
    by_cases k91 : c = 91
    · rw [if_pos k91]
      have et : (nI c = nI 91) = True := by rw [e91]; exact eq_true k91
      obtain ⟨σ2, e3, r1, r2, r3, r4⟩ := m138 (X := X) (d := d + 2) (s := T 3 0) hC hO hk
      rw [if_neg (by omega), if_neg (by omega)] at e3
      refine ⟨am_wI σ2 66 26 (nI 0), ?_, ⟨mCo_k r1 r1.1 (fun a b _ _ _ _ => rfl) (fun o k q => by rw [am_I_wI, if_neg (by omega)]), ?_, fun _ => ?_, fun q => absurd (show 0 = 1 from q) (by decide), fun q => absurd (show 2 ≤ 0 from q) (by decide)⟩, r2.w (by rfl)⟩
      · have e4 : am_v X (d + 4) 144 [.ref (66 : Nat), .int (nI c)] σ = some (some (.int (nI 1)), am_wI σ2 66 26 (nI 0)) := by
          rw [s144]
          simp only [s144_0, s144_1, s144_3, s144_6, s144_7, s144_8, s144_9, s144_11, s144_12, s144_15, s144_18, s144_19, s144_20, s144_23, s144_24, am_pu_s, am_pu_n, va_rf_s, va_rf_n, Option.bind_some, true_or, or_true, eq_self, if_true, if_false, ite_self, ite_true, ite_false, ↓reduceIte, reduceCtorEq, Nat.reduceEqDiff, Nat.reduceAdd, Nat.reduceLT, Nat.reduceLeDiff, Nat.reduceMul, Nat.reduceSub, not_true_eq_false, not_false_eq_true, and_self, and_true, true_and, and_false, false_and, am_I_wI, am_I_wJ, am_J_wI, am_J_wJ, am_R_wI, am_R_wJ, am_kd_wI, am_kd_wJ, am_ln_wI, am_ln_wJ, am_ix_wI, am_ix_wJ, am_F_wI, am_F_wJ, am_I_wC, am_J_wC, am_R_wC, am_kd_wC, am_ln_wC, am_ix_wC, am_F_wC, hF, r1.1, kd66, et, h29, e3]
        simp only [s145_0, s145_1, s145_4, s145_54, s145_55, s145_56, s145_59, am_pu_s, am_pu_n, va_rf_s, va_rf_n, Option.bind_some, true_or, or_true, eq_self, if_true, if_false, ite_self, ite_true, ite_false, ↓reduceIte, reduceCtorEq, Nat.reduceEqDiff, Nat.reduceAdd, Nat.reduceLT, Nat.reduceLeDiff, Nat.reduceMul, Nat.reduceSub, not_true_eq_false, not_false_eq_true, and_self, and_true, true_and, and_false, false_and, hF, kd66, h26, n0', n1', e4, rBo]
      · simp only [am_I_wI, am_pu_s, am_pu_n, va_rf_s, va_rf_n, Option.bind_some, true_or, or_true, eq_self, if_true, if_false, ite_self, ite_true, ite_false, ↓reduceIte, reduceCtorEq, Nat.reduceEqDiff, Nat.reduceAdd, Nat.reduceLT, Nat.reduceLeDiff, Nat.reduceMul, Nat.reduceSub, not_true_eq_false, not_false_eq_true, and_self, and_true, true_and, and_false, false_and]; rfl
      · simp only [am_I_wI, am_pu_s, am_pu_n, va_rf_s, va_rf_n, Option.bind_some, true_or, or_true, eq_self, if_true, if_false, ite_self, ite_true, ite_false, ↓reduceIte, reduceCtorEq, Nat.reduceEqDiff, Nat.reduceAdd, Nat.reduceLT, Nat.reduceLeDiff, Nat.reduceMul, Nat.reduceSub, not_true_eq_false, not_false_eq_true, and_self, and_true, true_and, and_false, false_and]; exact r3
    · rw [if_neg k91]
      refine ⟨σ, ?_, h, am_pr.rf hF⟩
      have e4 : am_v X (d + 4) 144 [.ref (66 : Nat), .int (nI c)] σ = some (some (.int (nI 0)), σ) := by
        rw [s144]
        simp only [s144_0, s144_1, s144_3, s144_6, s144_7, s144_8, s144_9, s144_11, s144_12, s144_15, s144_18, s144_19, s144_20, s144_23, s144_24, am_pu_s, am_pu_n, va_rf_s, va_rf_n, Option.bind_some, true_or, or_true, eq_self, if_true, if_false, ite_self, ite_true, ite_false, ↓reduceIte, reduceCtorEq, Nat.reduceEqDiff, Nat.reduceAdd, Nat.reduceLT, Nat.reduceLeDiff, Nat.reduceMul, Nat.reduceSub, not_true_eq_false, not_false_eq_true, and_self, and_true, true_and, and_false, false_and, e91, k91]
      simp only [s145_0, s145_1, s145_4, s145_54, s145_55, s145_56, s145_59, am_pu_s, am_pu_n, va_rf_s, va_rf_n, Option.bind_some, true_or, or_true, eq_self, if_true, if_false, ite_self, ite_true, ite_false, ↓reduceIte, reduceCtorEq, Nat.reduceEqDiff, Nat.reduceAdd, Nat.reduceLT, Nat.reduceLeDiff, Nat.reduceMul, Nat.reduceSub, not_true_eq_false, not_false_eq_true, and_self, and_true, true_and, and_false, false_and, hF, kd66, h26, n0', n1', e4, rBo]
  have n1' : ¬ nI (T 1 0) = nI 1 := by rw [n1]; exact m1
  have n0' : ¬ nI (T 1 0) = nI 0 := by rw [n0]; exact m0
  have h30 := hM.2.2.2 (by omega)
  obtain ⟨b1, b2⟩ := h2 (by omega)
  unfold rdS
  rw [if_neg m0, if_neg m1, s145]
  have go : ∀ r σ', am_v X (d + 4) 143 [.ref (66 : Nat), .int (nI c)] σ = some (some (.int (rBo (r : Option am_T))), σ') → am_w X (d + 4) 145 0 [some (.ref (66 : Nat)), some (.int (nI c))] [] σ = some (some (.int (rBo r)), σ') := fun r σ' e => by
    have hr := rBo_01 r
    simp only [s145_0, s145_1, s145_4, s145_60, s145_61, s145_62, s145_65, am_pu_s, am_pu_n, va_rf_s, va_rf_n, Option.bind_some, true_or, or_true, eq_self, if_true, if_false, ite_self, ite_true, ite_false, ↓reduceIte, reduceCtorEq, Nat.reduceEqDiff, Nat.reduceAdd, Nat.reduceLT, Nat.reduceLeDiff, Nat.reduceMul, Nat.reduceSub, not_true_eq_false, not_false_eq_true, and_self, and_true, true_and, and_false, false_and, hF, kd66, h26, n0', n1', e, hr]
  by_cases cn : 97 ≤ c ∧ c ≤ 103
  · rw [if_pos cn]
    have hb := (note_b hc).mpr cn
    have e1 : nI c - nI 97 = nI (c - 97) := pk_sub cn.1
    have e2 := b_pw (c - 97) (by omega)
    have e3 : nI (T 2 0) ||| nI (2 ^ (c - 97)) = nI (T 2 0 ||| 2 ^ (c - 97)) := nI_or _ b1 _ (c_pw _ (by omega))
    refine ⟨am_wI (am_wI σ 66 30 (nI (T 2 0 ||| 2 ^ (c - 97)))) 66 26 (nI 3), go _ _ ?_, ⟨mCo_k hC hF (fun a b q1 q2 q3 q4 => by rw [Option.getD_some, tW_n q2, tW_n q1]) (fun o k q => by rw [am_I_wI, if_neg (by omega), am_I_wI, if_neg (by omega)]), ?_, fun q => absurd (show 3 = 0 from q) (by decide), fun q => absurd (show 3 = 1 from q) (by decide), fun _ => ?_⟩, ((am_pr.rf hF).w (by rfl)).w (by rfl)⟩
    · rw [s143]
      simp only [s143_0, s143_1, s143_3, s143_5, s143_8, s143_11, s143_12, s143_13, s143_16, s143_17, s143_18, s143_20, s143_21, s143_22, s143_23, s143_26, s143_27, s143_28, s143_31, s143_32, s143_33, s143_34, s143_37, s143_38, s143_41, s143_42, s143_44, s143_47, s143_48, s143_49, s143_50, s143_51, s143_54, s143_57, s143_58, s143_59, s143_62, s143_63, am_pu_s, am_pu_n, va_rf_s, va_rf_n, Option.bind_some, true_or, or_true, eq_self, if_true, if_false, ite_self, ite_true, ite_false, ↓reduceIte, reduceCtorEq, Nat.reduceEqDiff, Nat.reduceAdd, Nat.reduceLT, Nat.reduceLeDiff, Nat.reduceMul, Nat.reduceSub, not_true_eq_false, not_false_eq_true, and_self, and_true, true_and, and_false, false_and, am_I_wI, am_I_wJ, am_J_wI, am_J_wJ, am_R_wI, am_R_wJ, am_kd_wI, am_kd_wJ, am_ln_wI, am_ln_wJ, am_ix_wI, am_ix_wJ, am_F_wI, am_F_wJ, am_I_wC, am_J_wC, am_R_wC, am_kd_wC, am_ln_wC, am_ix_wC, am_F_wC, hF, kd66, m124, bI_t hb, nI_10, h30, e1, e2, e3, rBo]
    · simp only [am_I_wI, am_pu_s, am_pu_n, va_rf_s, va_rf_n, Option.bind_some, true_or, or_true, eq_self, if_true, if_false, ite_self, ite_true, ite_false, ↓reduceIte, reduceCtorEq, Nat.reduceEqDiff, Nat.reduceAdd, Nat.reduceLT, Nat.reduceLeDiff, Nat.reduceMul, Nat.reduceSub, not_true_eq_false, not_false_eq_true, and_self, and_true, true_and, and_false, false_and]; rfl
    · simp only [am_I_wI, am_pu_s, am_pu_n, va_rf_s, va_rf_n, Option.bind_some, true_or, or_true, eq_self, if_true, if_false, ite_self, ite_true, ite_false, ↓reduceIte, reduceCtorEq, Nat.reduceEqDiff, Nat.reduceAdd, Nat.reduceLT, Nat.reduceLeDiff, Nat.reduceMul, Nat.reduceSub, not_true_eq_false, not_false_eq_true, and_self, and_true, true_and, and_false, false_and]; rfl
  rw [if_neg cn]
  have hb : ¬ (nI 97 ≤ nI c ∧ nI c ≤ nI 103) := fun q => cn ((note_b hc).mp q)
  have e41 : (nI c = nI 41) = (c = 41) := nI_EQ (by omega) (by decide)
  by_cases c1 : T 1 0 = 3 ∧ c = 41
  · rw [if_pos c1]
    have et : (nI c = nI 41) = True := by rw [e41]; exact eq_true c1.2
    have n2' : ¬ nI (T 1 0) = nI 2 := by rw [n2]; omega
    obtain ⟨σ2, e3, r1, r2, r3, r4⟩ := m137 (X := X) (d := d + 1) hC hB (by omega) b1
    refine ⟨am_wI σ2 66 26 (nI 0), go _ _ ?_, ⟨mCo_k r1 r1.1 (fun a b _ _ _ _ => rfl) (fun o k q => by rw [am_I_wI, if_neg (by omega)]), ?_, fun _ => ?_, fun q => absurd (show 0 = 1 from q) (by decide), fun q => absurd (show 2 ≤ 0 from q) (by decide)⟩, r2.w (by rfl)⟩
    · rw [s143]
      simp only [s143_0, s143_1, s143_3, s143_5, s143_8, s143_11, s143_12, s143_13, s143_16, s143_17, s143_18, s143_20, s143_21, s143_22, s143_23, s143_26, s143_27, s143_28, s143_31, s143_32, s143_33, s143_34, s143_37, s143_38, s143_41, s143_42, s143_44, s143_47, s143_48, s143_49, s143_50, s143_51, s143_54, s143_57, s143_58, s143_59, s143_62, s143_63, am_pu_s, am_pu_n, va_rf_s, va_rf_n, Option.bind_some, true_or, or_true, eq_self, if_true, if_false, ite_self, ite_true, ite_false, ↓reduceIte, reduceCtorEq, Nat.reduceEqDiff, Nat.reduceAdd, Nat.reduceLT, Nat.reduceLeDiff, Nat.reduceMul, Nat.reduceSub, not_true_eq_false, not_false_eq_true, and_self, and_true, true_and, and_false, false_and, am_I_wI, am_I_wJ, am_J_wI, am_J_wJ, am_R_wI, am_R_wJ, am_kd_wI, am_kd_wJ, am_ln_wI, am_ln_wJ, am_ix_wI, am_ix_wJ, am_F_wI, am_F_wJ, am_I_wC, am_J_wC, am_R_wC, am_kd_wC, am_ln_wC, am_ix_wC, am_F_wC, hF, r1.1, kd66, m124, bI_f hb, h26, n2', et, h30, e3, rBo]
    · simp only [am_I_wI, am_pu_s, am_pu_n, va_rf_s, va_rf_n, Option.bind_some, true_or, or_true, eq_self, if_true, if_false, ite_self, ite_true, ite_false, ↓reduceIte, reduceCtorEq, Nat.reduceEqDiff, Nat.reduceAdd, Nat.reduceLT, Nat.reduceLeDiff, Nat.reduceMul, Nat.reduceSub, not_true_eq_false, not_false_eq_true, and_self, and_true, true_and, and_false, false_and]; rfl
    · simp only [am_I_wI, am_pu_s, am_pu_n, va_rf_s, va_rf_n, Option.bind_some, true_or, or_true, eq_self, if_true, if_false, ite_self, ite_true, ite_false, ↓reduceIte, reduceCtorEq, Nat.reduceEqDiff, Nat.reduceAdd, Nat.reduceLT, Nat.reduceLeDiff, Nat.reduceMul, Nat.reduceSub, not_true_eq_false, not_false_eq_true, and_self, and_true, true_and, and_false, false_and]; exact r3
  · rw [if_neg c1]
    refine ⟨σ, go _ _ ?_, h, am_pr.rf hF⟩
    rw [s143]
    by_cases m2 : T 1 0 = 2
    · have n2' : (nI (T 1 0) = nI 2) = True := by rw [n2]; exact eq_true m2
      simp only [s143_0, s143_1, s143_3, s143_5, s143_8, s143_11, s143_12, s143_13, s143_16, s143_17, s143_18, s143_20, s143_21, s143_22, s143_23, s143_26, s143_27, s143_28, s143_31, s143_32, s143_33, s143_34, s143_37, s143_38, s143_41, s143_42, s143_44, s143_47, s143_48, s143_49, s143_50, s143_51, s143_54, s143_57, s143_58, s143_59, s143_62, s143_63, am_pu_s, am_pu_n, va_rf_s, va_rf_n, Option.bind_some, true_or, or_true, eq_self, if_true, if_false, ite_self, ite_true, ite_false, ↓reduceIte, reduceCtorEq, Nat.reduceEqDiff, Nat.reduceAdd, Nat.reduceLT, Nat.reduceLeDiff, Nat.reduceMul, Nat.reduceSub, not_true_eq_false, not_false_eq_true, and_self, and_true, true_and, and_false, false_and, hF, kd66, m124, bI_f hb, h26, n2', rBo]
    · have n2' : ¬ nI (T 1 0) = nI 2 := by rw [n2]; exact m2
      have k41 : ¬ c = 41 := by omega
      simp only [s143_0, s143_1, s143_3, s143_5, s143_8, s143_11, s143_12, s143_13, s143_16, s143_17, s143_18, s143_20, s143_21, s143_22, s143_23, s143_26, s143_27, s143_28, s143_31, s143_32, s143_33, s143_34, s143_37, s143_38, s143_41, s143_42, s143_44, s143_47, s143_48, s143_49, s143_50, s143_51, s143_54, s143_57, s143_58, s143_59, s143_62, s143_63, am_pu_s, am_pu_n, va_rf_s, va_rf_n, Option.bind_some, true_or, or_true, eq_self, if_true, if_false, ite_self, ite_true, ite_false, ↓reduceIte, reduceCtorEq, Nat.reduceEqDiff, Nat.reduceAdd, Nat.reduceLT, Nat.reduceLeDiff, Nat.reduceMul, Nat.reduceSub, not_true_eq_false, not_false_eq_true, and_self, and_true, true_and, and_false, false_and, hF, kd66, m124, bI_f hb, h26, n2', e41, k41, rBo]
end MD
