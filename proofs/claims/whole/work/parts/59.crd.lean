/-! the reader of the class -/
def cCo (T : am_T) (σ : am_M) : Prop := am_F σ ∧ (am_I σ 3 4 = nI (T 0 0) ∧ am_I σ 3 8 = nI (T 4 0) ∧ am_I σ 3 11 = nI (T 6 0) ∧ am_I σ 3 12 = nI (T 7 0) ∧ am_I σ 3 13 = nI (T 8 0)) ∧ (∀ j, j < T 7 0 → am_I σ 4 j = nI (T 9 j)) ∧ ∀ j, j < T 0 0 → am_I σ 5 j = nI (T 10 j) ∧ am_I σ 6 j = nI (T 11 j) ∧ am_I σ 7 j = nI (T 12 j)
def cMo (T : am_T) (σ : am_M) : Prop := am_I σ 3 5 = nI (if T 1 0 = 0 then 0 else if T 1 0 = 1 then 2 else 1) ∧ (2 ≤ T 1 0 → am_I σ 3 6 = nI (T 2 0)) ∧ (T 1 0 = 1 → am_I σ 3 7 = nI (T 3 0)) ∧ am_I σ 3 9 = nI (T 5 0)
def cRd (T : am_T) (σ : am_M) : Prop := cCo T σ ∧ cMo T σ
def cKe (σ σ' : am_M) : Prop := (∀ k, (k = 5 ∨ k = 6 ∨ k = 7 ∨ k = 9 ∨ k = 10) → am_I σ' 3 k = am_I σ 3 k) ∧ ∀ a k, (a = 5 ∨ a = 6 ∨ a = 7) → am_I σ' a k = am_I σ a k
theorem cKe.rf (σ : am_M) : cKe σ σ := ⟨fun _ _ => rfl, fun _ _ _ => rfl⟩
theorem cKe.tr {σ σ1 σ2 : am_M} (h1 : cKe σ σ1) (h2 : cKe σ1 σ2) : cKe σ σ2 := ⟨fun k q => (h2.1 k q).trans (h1.1 k q), fun a k q => (h2.2 a k q).trans (h1.2 a k q)⟩
theorem cKe.w {σ σ1 : am_M} {o k : Nat} {v : Int32} (h1 : cKe σ σ1) (h : ¬ (o = 3 ∧ (k = 5 ∨ k = 6 ∨ k = 7 ∨ k = 9 ∨ k = 10))) (h' : ¬ (o = 5 ∨ o = 6 ∨ o = 7)) : cKe σ (am_wI σ1 o k v) := by
  refine ⟨fun j q => ?_, fun a j q => ?_⟩
  · rw [am_I_wI, if_neg (fun e => h ⟨e.1.symm, by rw [← e.2]; exact q⟩)]
    exact h1.1 j q
  · rw [am_I_wI, if_neg (fun e => h' (by rw [← e.1]; exact q))]
    exact h1.2 a j q
def rBo {α : Type} (o : Option α) : Int32 := match o with
  | some _ => nI 1
  | none => nI 0
theorem rBo_01 {α : Type} (o : Option α) : rBo o = nI 0 ∨ rBo o = nI 1 := by cases o with
  | none => exact Or.inl rfl
  | some _ => exact Or.inr rfl
section CD
variable {X : am_X} {d N k : Nat} {σ : am_M} {T : am_T}
theorem cCo_add {b : Nat} (h : cCo T σ) (h60 : T 7 0 ≤ 60) : ∃ σ', am_v X (d + 1) 74 [.ref (3 : Nat), .int (nI b)] σ = some (none, σ') ∧ cCo (tAdd T b) σ' ∧ am_pr nsA σ σ' ∧ cKe σ σ' := by
  obtain ⟨hF, ⟨c0, c4, c6, c7, c8⟩, cb, cs⟩ := h
  unfold tAdd
  rw [s74]
  by_cases c : T 7 0 < 60
  · rw [if_pos c]
    have t : nI (T 7 0) < nI 60 := nI_lt c (by decide)
    refine ⟨am_wI (am_wI σ 4 (T 7 0) (nI b)) 3 12 (nI (T 7 0 + 1)), ?_, ⟨hF, ⟨?_, ?_, ?_, ?_, ?_⟩, fun j hj => ?_, fun j hj => ?_⟩, ((am_pr.rf hF).w (by rfl)).w (by rfl), ((cKe.rf σ).w (by omega) (by omega)).w (by omega) (by omega)⟩
    · simp only [s74_0, s74_1, s74_4, s74_6, s74_9, s74_10, s74_11, s74_14, s74_15, s74_16, s74_19, s74_20, s74_23, s74_24, s74_25, s74_26, s74_27, s74_30, s74_31, s74_32, s74_35, am_pu_s, am_pu_n, va_rf_s, va_rf_n, Option.bind_some, true_or, or_true, eq_self, if_true, if_false, ite_self, ite_true, ite_false, ↓reduceIte, reduceCtorEq, Nat.reduceEqDiff, Nat.reduceAdd, Nat.reduceLT, Nat.reduceLeDiff, Nat.reduceMul, Nat.reduceSub, not_true_eq_false, not_false_eq_true, and_self, and_true, true_and, and_false, false_and, am_I_wI, am_I_wJ, am_J_wI, am_J_wJ, am_R_wI, am_R_wJ, am_kd_wI, am_kd_wJ, am_ln_wI, am_ln_wJ, am_ix_wI, am_ix_wJ, am_F_wI, am_F_wJ, am_I_wC, am_J_wC, am_R_wC, am_kd_wC, am_ln_wC, am_ix_wC, am_F_wC, hF, kd3, rr3_0, c7, t, ix4 hF c, nI_cl (show T 7 0 < 2147483648 by omega), nI_add]
    · simp only [am_I_wI, am_pu_s, am_pu_n, va_rf_s, va_rf_n, Option.bind_some, true_or, or_true, eq_self, if_true, if_false, ite_self, ite_true, ite_false, ↓reduceIte, reduceCtorEq, Nat.reduceEqDiff, Nat.reduceAdd, Nat.reduceLT, Nat.reduceLeDiff, Nat.reduceMul, Nat.reduceSub, not_true_eq_false, not_false_eq_true, and_self, and_true, true_and, and_false, false_and]; exact c0
    · simp only [am_I_wI, am_pu_s, am_pu_n, va_rf_s, va_rf_n, Option.bind_some, true_or, or_true, eq_self, if_true, if_false, ite_self, ite_true, ite_false, ↓reduceIte, reduceCtorEq, Nat.reduceEqDiff, Nat.reduceAdd, Nat.reduceLT, Nat.reduceLeDiff, Nat.reduceMul, Nat.reduceSub, not_true_eq_false, not_false_eq_true, and_self, and_true, true_and, and_false, false_and]; exact c4
    · simp only [am_I_wI, am_pu_s, am_pu_n, va_rf_s, va_rf_n, Option.bind_some, true_or, or_true, eq_self, if_true, if_false, ite_self, ite_true, ite_false, ↓reduceIte, reduceCtorEq, Nat.reduceEqDiff, Nat.reduceAdd, Nat.reduceLT, Nat.reduceLeDiff, Nat.reduceMul, Nat.reduceSub, not_true_eq_false, not_false_eq_true, and_self, and_true, true_and, and_false, false_and]; exact c6
    · simp only [am_I_wI, am_pu_s, am_pu_n, va_rf_s, va_rf_n, Option.bind_some, true_or, or_true, eq_self, if_true, if_false, ite_self, ite_true, ite_false, ↓reduceIte, reduceCtorEq, Nat.reduceEqDiff, Nat.reduceAdd, Nat.reduceLT, Nat.reduceLeDiff, Nat.reduceMul, Nat.reduceSub, not_true_eq_false, not_false_eq_true, and_self, and_true, true_and, and_false, false_and]; rfl
    · simp only [am_I_wI, am_pu_s, am_pu_n, va_rf_s, va_rf_n, Option.bind_some, true_or, or_true, eq_self, if_true, if_false, ite_self, ite_true, ite_false, ↓reduceIte, reduceCtorEq, Nat.reduceEqDiff, Nat.reduceAdd, Nat.reduceLT, Nat.reduceLeDiff, Nat.reduceMul, Nat.reduceSub, not_true_eq_false, not_false_eq_true, and_self, and_true, true_and, and_false, false_and]; exact c8
    · have hj' : j < T 7 0 + 1 := hj
      rw [am_I_wI, if_neg (by omega), tW_n (by decide)]
      by_cases e : j = T 7 0
      · rw [e, am_I_wI, if_pos ⟨rfl, rfl⟩, tW_e]
      · rw [am_I_wI, if_neg (by omega), tW_m e]
        exact cb j (by omega)
    · rw [am_I_wI, if_neg (by omega), am_I_wI, if_neg (by omega), am_I_wI, if_neg (by omega), am_I_wI, if_neg (by omega), am_I_wI, if_neg (by omega), am_I_wI, if_neg (by omega)]
      exact cs j hj
  · rw [if_neg c]
    have t : ¬ nI (T 7 0) < nI 60 := nI_nlt (by omega) (by omega)
    refine ⟨am_wI σ 3 13 (nI 1), ?_, ⟨hF, ⟨?_, ?_, ?_, ?_, ?_⟩, fun j hj => ?_, fun j hj => ?_⟩, (am_pr.rf hF).w (by rfl), (cKe.rf σ).w (by omega) (by omega)⟩
    · simp only [s74_0, s74_1, s74_4, s74_6, s74_9, s74_10, s74_11, s74_14, s74_15, s74_16, s74_19, s74_20, s74_23, s74_24, s74_25, s74_26, s74_27, s74_30, s74_31, s74_32, s74_35, am_pu_s, am_pu_n, va_rf_s, va_rf_n, Option.bind_some, true_or, or_true, eq_self, if_true, if_false, ite_self, ite_true, ite_false, ↓reduceIte, reduceCtorEq, Nat.reduceEqDiff, Nat.reduceAdd, Nat.reduceLT, Nat.reduceLeDiff, Nat.reduceMul, Nat.reduceSub, not_true_eq_false, not_false_eq_true, and_self, and_true, true_and, and_false, false_and, am_I_wI, am_I_wJ, am_J_wI, am_J_wJ, am_R_wI, am_R_wJ, am_kd_wI, am_kd_wJ, am_ln_wI, am_ln_wJ, am_ix_wI, am_ix_wJ, am_F_wI, am_F_wJ, am_I_wC, am_J_wC, am_R_wC, am_kd_wC, am_ln_wC, am_ix_wC, am_F_wC, hF, kd3, c7, t]
    · simp only [am_I_wI, am_pu_s, am_pu_n, va_rf_s, va_rf_n, Option.bind_some, true_or, or_true, eq_self, if_true, if_false, ite_self, ite_true, ite_false, ↓reduceIte, reduceCtorEq, Nat.reduceEqDiff, Nat.reduceAdd, Nat.reduceLT, Nat.reduceLeDiff, Nat.reduceMul, Nat.reduceSub, not_true_eq_false, not_false_eq_true, and_self, and_true, true_and, and_false, false_and]; exact c0
    · simp only [am_I_wI, am_pu_s, am_pu_n, va_rf_s, va_rf_n, Option.bind_some, true_or, or_true, eq_self, if_true, if_false, ite_self, ite_true, ite_false, ↓reduceIte, reduceCtorEq, Nat.reduceEqDiff, Nat.reduceAdd, Nat.reduceLT, Nat.reduceLeDiff, Nat.reduceMul, Nat.reduceSub, not_true_eq_false, not_false_eq_true, and_self, and_true, true_and, and_false, false_and]; exact c4
    · simp only [am_I_wI, am_pu_s, am_pu_n, va_rf_s, va_rf_n, Option.bind_some, true_or, or_true, eq_self, if_true, if_false, ite_self, ite_true, ite_false, ↓reduceIte, reduceCtorEq, Nat.reduceEqDiff, Nat.reduceAdd, Nat.reduceLT, Nat.reduceLeDiff, Nat.reduceMul, Nat.reduceSub, not_true_eq_false, not_false_eq_true, and_self, and_true, true_and, and_false, false_and]; exact c6
    · simp only [am_I_wI, am_pu_s, am_pu_n, va_rf_s, va_rf_n, Option.bind_some, true_or, or_true, eq_self, if_true, if_false, ite_self, ite_true, ite_false, ↓reduceIte, reduceCtorEq, Nat.reduceEqDiff, Nat.reduceAdd, Nat.reduceLT, Nat.reduceLeDiff, Nat.reduceMul, Nat.reduceSub, not_true_eq_false, not_false_eq_true, and_self, and_true, true_and, and_false, false_and]; exact c7
    · simp only [am_I_wI, am_pu_s, am_pu_n, va_rf_s, va_rf_n, Option.bind_some, true_or, or_true, eq_self, if_true, if_false, ite_self, ite_true, ite_false, ↓reduceIte, reduceCtorEq, Nat.reduceEqDiff, Nat.reduceAdd, Nat.reduceLT, Nat.reduceLeDiff, Nat.reduceMul, Nat.reduceSub, not_true_eq_false, not_false_eq_true, and_self, and_true, true_and, and_false, false_and]; rfl
    · rw [am_I_wI, if_neg (by omega)]; exact cb j hj
    · rw [am_I_wI, if_neg (by omega), am_I_wI, if_neg (by omega), am_I_wI, if_neg (by omega)]
      exact cs j hj
theorem m67 (hF : am_F σ) {v : Int32} : am_v X (d + 1) 67 [.ref (3 : Nat), .int v] σ = some (some (.int (nI 1)), am_wI (am_wI (am_wI σ 3 5 v) 3 6 (nI 0)) 3 9 (nI 0)) := by
  have h01 : nI 0 = nI 0 ∨ nI 0 = nI 1 := Or.inl rfl
  have h11 : nI 1 = nI 0 ∨ nI 1 = nI 1 := Or.inr rfl
  rw [s67]
  simp only [s67_0, s67_1, s67_2, s67_5, s67_6, s67_7, s67_10, s67_11, s67_12, s67_15, s67_16, am_pu_s, am_pu_n, va_rf_s, va_rf_n, Option.bind_some, true_or, or_true, eq_self, if_true, if_false, ite_self, ite_true, ite_false, ↓reduceIte, reduceCtorEq, Nat.reduceEqDiff, Nat.reduceAdd, Nat.reduceLT, Nat.reduceLeDiff, Nat.reduceMul, Nat.reduceSub, not_true_eq_false, not_false_eq_true, and_self, and_true, true_and, and_false, false_and, am_I_wI, am_I_wJ, am_J_wI, am_J_wJ, am_R_wI, am_R_wJ, am_kd_wI, am_kd_wJ, am_ln_wI, am_ln_wJ, am_ix_wI, am_ix_wJ, am_F_wI, am_F_wJ, am_I_wC, am_J_wC, am_R_wC, am_kd_wC, am_ln_wC, am_ix_wC, am_F_wC, hF, kd3]
theorem m69 (hF : am_F σ) : am_v X (d + 1) 69 [.ref (3 : Nat)] σ = some (some (.int (nI 1)), am_wI (am_wI (am_wI σ 3 8 (nI 0)) 3 5 (nI 0)) 3 9 (nI 1)) := by
  rw [s69]
  simp only [s69_0, s69_1, s69_2, s69_5, s69_6, s69_7, s69_10, s69_11, s69_12, s69_15, s69_16, am_pu_s, am_pu_n, va_rf_s, va_rf_n, Option.bind_some, true_or, or_true, eq_self, if_true, if_false, ite_self, ite_true, ite_false, ↓reduceIte, reduceCtorEq, Nat.reduceEqDiff, Nat.reduceAdd, Nat.reduceLT, Nat.reduceLeDiff, Nat.reduceMul, Nat.reduceSub, not_true_eq_false, not_false_eq_true, and_self, and_true, true_and, and_false, false_and, am_I_wI, am_I_wJ, am_J_wI, am_J_wJ, am_R_wI, am_R_wJ, am_kd_wI, am_kd_wJ, am_ln_wI, am_ln_wJ, am_ix_wI, am_ix_wJ, am_F_wI, am_F_wJ, am_I_wC, am_J_wC, am_R_wC, am_kd_wC, am_ln_wC, am_ix_wC, am_F_wC, hF, kd3]
theorem cCo_it (h : cCo T σ) : cRd (tIt T) (am_wI (am_wI (am_wI σ 3 8 (nI 0)) 3 5 (nI 0)) 3 9 (nI 1)) ∧ am_pr nsA σ (am_wI (am_wI (am_wI σ 3 8 (nI 0)) 3 5 (nI 0)) 3 9 (nI 1)) := by
  obtain ⟨hF, ⟨c0, c4, c6, c7, c8⟩, cb, cs⟩ := h
  refine ⟨⟨⟨hF, ⟨?_, ?_, ?_, ?_, ?_⟩, fun j hj => ?_, fun j hj => ?_⟩, ?_, fun q => ?_, fun q => ?_, ?_⟩, (((am_pr.rf hF).w (by rfl)).w (by rfl)).w (by rfl)⟩
  · simp only [am_I_wI, am_pu_s, am_pu_n, va_rf_s, va_rf_n, Option.bind_some, true_or, or_true, eq_self, if_true, if_false, ite_self, ite_true, ite_false, ↓reduceIte, reduceCtorEq, Nat.reduceEqDiff, Nat.reduceAdd, Nat.reduceLT, Nat.reduceLeDiff, Nat.reduceMul, Nat.reduceSub, not_true_eq_false, not_false_eq_true, and_self, and_true, true_and, and_false, false_and]; exact c0
  · simp only [am_I_wI, am_pu_s, am_pu_n, va_rf_s, va_rf_n, Option.bind_some, true_or, or_true, eq_self, if_true, if_false, ite_self, ite_true, ite_false, ↓reduceIte, reduceCtorEq, Nat.reduceEqDiff, Nat.reduceAdd, Nat.reduceLT, Nat.reduceLeDiff, Nat.reduceMul, Nat.reduceSub, not_true_eq_false, not_false_eq_true, and_self, and_true, true_and, and_false, false_and]; rfl
  · simp only [am_I_wI, am_pu_s, am_pu_n, va_rf_s, va_rf_n, Option.bind_some, true_or, or_true, eq_self, if_true, if_false, ite_self, ite_true, ite_false, ↓reduceIte, reduceCtorEq, Nat.reduceEqDiff, Nat.reduceAdd, Nat.reduceLT, Nat.reduceLeDiff, Nat.reduceMul, Nat.reduceSub, not_true_eq_false, not_false_eq_true, and_self, and_true, true_and, and_false, false_and]; exact c6
  · simp only [am_I_wI, am_pu_s, am_pu_n, va_rf_s, va_rf_n, Option.bind_some, true_or, or_true, eq_self, if_true, if_false, ite_self, ite_true, ite_false, ↓reduceIte, reduceCtorEq, Nat.reduceEqDiff, Nat.reduceAdd, Nat.reduceLT, Nat.reduceLeDiff, Nat.reduceMul, Nat.reduceSub, not_true_eq_false, not_false_eq_true, and_self, and_true, true_and, and_false, false_and]; exact c7
  · simp only [am_I_wI, am_pu_s, am_pu_n, va_rf_s, va_rf_n, Option.bind_some, true_or, or_true, eq_self, if_true, if_false, ite_self, ite_true, ite_false, ↓reduceIte, reduceCtorEq, Nat.reduceEqDiff, Nat.reduceAdd, Nat.reduceLT, Nat.reduceLeDiff, Nat.reduceMul, Nat.reduceSub, not_true_eq_false, not_false_eq_true, and_self, and_true, true_and, and_false, false_and]; exact c8
  · simp only [am_I_wI, am_pu_s, am_pu_n, va_rf_s, va_rf_n, Option.bind_some, true_or, or_true, eq_self, if_true, if_false, ite_self, ite_true, ite_false, ↓reduceIte, reduceCtorEq, Nat.reduceEqDiff, Nat.reduceAdd, Nat.reduceLT, Nat.reduceLeDiff, Nat.reduceMul, Nat.reduceSub, not_true_eq_false, not_false_eq_true, and_self, and_true, true_and, and_false, false_and]; exact cb j hj
  · simp only [am_I_wI, am_pu_s, am_pu_n, va_rf_s, va_rf_n, Option.bind_some, true_or, or_true, eq_self, if_true, if_false, ite_self, ite_true, ite_false, ↓reduceIte, reduceCtorEq, Nat.reduceEqDiff, Nat.reduceAdd, Nat.reduceLT, Nat.reduceLeDiff, Nat.reduceMul, Nat.reduceSub, not_true_eq_false, not_false_eq_true, and_self, and_true, true_and, and_false, false_and]; exact cs j hj
  · simp only [am_I_wI, am_pu_s, am_pu_n, va_rf_s, va_rf_n, Option.bind_some, true_or, or_true, eq_self, if_true, if_false, ite_self, ite_true, ite_false, ↓reduceIte, reduceCtorEq, Nat.reduceEqDiff, Nat.reduceAdd, Nat.reduceLT, Nat.reduceLeDiff, Nat.reduceMul, Nat.reduceSub, not_true_eq_false, not_false_eq_true, and_self, and_true, true_and, and_false, false_and]; rfl
  · exact absurd (show 2 ≤ 0 from q) (by decide)
  · exact absurd (show 0 = 1 from q) (by decide)
  · simp only [am_I_wI, am_pu_s, am_pu_n, va_rf_s, va_rf_n, Option.bind_some, true_or, or_true, eq_self, if_true, if_false, ite_self, ite_true, ite_false, ↓reduceIte, reduceCtorEq, Nat.reduceEqDiff, Nat.reduceAdd, Nat.reduceLT, Nat.reduceLeDiff, Nat.reduceMul, Nat.reduceSub, not_true_eq_false, not_false_eq_true, and_self, and_true, true_and, and_false, false_and]; rfl
theorem m68 {b : Nat} (h : cCo T σ) (hB : tB T) (h4 : T 4 0 ≤ 40) (hb : b < 128) : ∃ σ', am_v X (d + 3) 68 [.ref (3 : Nat), .int (nI b)] σ = some (some (.int (nI 1)), σ') ∧ cRd (tFin T b) σ' ∧ am_pr nsA σ σ' ∧ am_I σ' 3 10 = am_I σ 3 10 := by
  have hF := h.1
  have e1 := m121 (X := X) (d := d) (σ := σ) hb (show T 4 0 < 64 by omega)
  obtain ⟨σ1, e2, h1, p1, k1⟩ := cCo_add (X := X) (d := d + 1) (b := sRa b (T 4 0)) h hB.1
  obtain ⟨h2, p2⟩ := cCo_it h1
  refine ⟨_, ?_, h2, p1.tr p2, ?_⟩
  · rw [s68]
    simp only [s68_0, s68_1, s68_2, s68_3, s68_6, s68_9, s68_12, s68_13, s68_16, am_pu_s, am_pu_n, va_rf_s, va_rf_n, Option.bind_some, true_or, or_true, eq_self, if_true, if_false, ite_self, ite_true, ite_false, ↓reduceIte, reduceCtorEq, Nat.reduceEqDiff, Nat.reduceAdd, Nat.reduceLT, Nat.reduceLeDiff, Nat.reduceMul, Nat.reduceSub, not_true_eq_false, not_false_eq_true, and_self, and_true, true_and, and_false, false_and, hF, h1.1, kd3, h.2.1.2.1, e1, e2, m69 h1.1]
  · simp only [am_I_wI, am_pu_s, am_pu_n, va_rf_s, va_rf_n, Option.bind_some, true_or, or_true, eq_self, if_true, if_false, ite_self, ite_true, ite_false, ↓reduceIte, reduceCtorEq, Nat.reduceEqDiff, Nat.reduceAdd, Nat.reduceLT, Nat.reduceLeDiff, Nat.reduceMul, Nat.reduceSub, not_true_eq_false, not_false_eq_true, and_self, and_true, true_and, and_false, false_and]
    exact k1.1 10 (by omega)
theorem m70 {s : Nat} (h : cCo T σ) (hO : tOK T k) (hk : k < 40) : ∃ σ', am_v X (d + 2) 70 [.ref (3 : Nat), .int (nI s)] σ = some (some (.int (nI 1)), σ') ∧ cRd (tOp T s) σ' ∧ am_pr nsA σ σ' ∧ am_I σ' 3 10 = am_I σ 3 10 := by
  obtain ⟨hF, ⟨c0, c4, c6, c7, c8⟩, cb, cs⟩ := h
  obtain ⟨⟨a0, a1, a4, a5, a6⟩, h2, h3, h5, hB, hs⟩ := hO
  have ho : T 0 0 < 40 := by omega
  have t : nI (T 0 0) < nI 40 := nI_lt ho (by decide)
  have hp : am_pr nsA σ (am_wI (am_wI (am_wI (am_wI (am_wI (am_wI (am_wI (am_wI (am_wI σ 5 (T 0 0) (nI (T 7 0))) 6 (T 0 0) (nI s)) 7 (T 0 0) (nI (T 4 0))) 3 4 (nI (T 0 0 + 1))) 3 11 (nI (max (T 6 0) (T 0 0 + 1)))) 3 8 (nI 0)) 3 5 (nI 0)) 3 6 (nI 0)) 3 9 (nI 0)) := (((((((((am_pr.rf hF).w (by rfl)).w (by rfl)).w (by rfl)).w (by rfl)).w (by rfl)).w (by rfl)).w (by rfl)).w (by rfl)).w (by rfl)
  have hF2 : am_F (am_wI (am_wI (am_wI (am_wI (am_wI (am_wI σ 5 (T 0 0) (nI (T 7 0))) 6 (T 0 0) (nI s)) 7 (T 0 0) (nI (T 4 0))) 3 4 (nI (T 0 0 + 1))) 3 11 (nI (max (T 6 0) (T 0 0 + 1)))) 3 8 (nI 0)) := hF
  refine ⟨(am_wI (am_wI (am_wI (am_wI (am_wI (am_wI (am_wI (am_wI (am_wI σ 5 (T 0 0) (nI (T 7 0))) 6 (T 0 0) (nI s)) 7 (T 0 0) (nI (T 4 0))) 3 4 (nI (T 0 0 + 1))) 3 11 (nI (max (T 6 0) (T 0 0 + 1)))) 3 8 (nI 0)) 3 5 (nI 0)) 3 6 (nI 0)) 3 9 (nI 0)), ?_, ⟨⟨hF, ⟨?_, ?_, ?_, ?_, ?_⟩, fun j hj => ?_, fun j hj => ?_⟩, ?_, fun q => ?_, fun q => ?_, ?_⟩, hp, ?_⟩
  · have e5 := ix5 hF ho
    have e6 := ix6 hF ho
    have e7 := ix7 hF ho
    have ma := nI_ma (a := T 6 0) (b := T 0 0 + 1) (by omega) (by omega)
    rw [s70]
    simp only [s70_0, s70_1, s70_4, s70_6, s70_9, s70_10, s70_11, s70_12, s70_15, s70_16, s70_19, s70_20, s70_23, s70_24, s70_25, s70_28, s70_29, s70_32, s70_33, s70_34, s70_35, s70_38, s70_39, s70_42, s70_43, s70_46, s70_47, s70_48, s70_49, s70_52, s70_53, s70_54, s70_57, s70_58, s70_59, s70_62, s70_63, s70_66, s70_69, s70_72, s70_73, s70_74, s70_77, s70_78, s70_79, s70_82, am_pu_s, am_pu_n, va_rf_s, va_rf_n, Option.bind_some, true_or, or_true, eq_self, if_true, if_false, ite_self, ite_true, ite_false, ↓reduceIte, reduceCtorEq, Nat.reduceEqDiff, Nat.reduceAdd, Nat.reduceLT, Nat.reduceLeDiff, Nat.reduceMul, Nat.reduceSub, not_true_eq_false, not_false_eq_true, and_self, and_true, true_and, and_false, false_and, am_I_wI, am_I_wJ, am_J_wI, am_J_wJ, am_R_wI, am_R_wJ, am_kd_wI, am_kd_wJ, am_ln_wI, am_ln_wJ, am_ix_wI, am_ix_wJ, am_F_wI, am_F_wJ, am_I_wC, am_J_wC, am_R_wC, am_kd_wC, am_ln_wC, am_ix_wC, am_F_wC, hF, kd3, rr3_1, rr3_2, rr3_3, c0, c4, c6, c7, t, e5, e6, e7, nI_cl (show T 0 0 < 2147483648 by omega), nI_add, m217, ma]
    rw [m67 hF2]
    simp only [s70_82, am_pu_s, am_pu_n, va_rf_s, va_rf_n, Option.bind_some, true_or, or_true, eq_self, if_true, if_false, ite_self, ite_true, ite_false, ↓reduceIte, reduceCtorEq, Nat.reduceEqDiff, Nat.reduceAdd, Nat.reduceLT, Nat.reduceLeDiff, Nat.reduceMul, Nat.reduceSub, not_true_eq_false, not_false_eq_true, and_self, and_true, true_and, and_false, false_and]
  · simp only [am_I_wI, am_pu_s, am_pu_n, va_rf_s, va_rf_n, Option.bind_some, true_or, or_true, eq_self, if_true, if_false, ite_self, ite_true, ite_false, ↓reduceIte, reduceCtorEq, Nat.reduceEqDiff, Nat.reduceAdd, Nat.reduceLT, Nat.reduceLeDiff, Nat.reduceMul, Nat.reduceSub, not_true_eq_false, not_false_eq_true, and_self, and_true, true_and, and_false, false_and]; rfl
  · simp only [am_I_wI, am_pu_s, am_pu_n, va_rf_s, va_rf_n, Option.bind_some, true_or, or_true, eq_self, if_true, if_false, ite_self, ite_true, ite_false, ↓reduceIte, reduceCtorEq, Nat.reduceEqDiff, Nat.reduceAdd, Nat.reduceLT, Nat.reduceLeDiff, Nat.reduceMul, Nat.reduceSub, not_true_eq_false, not_false_eq_true, and_self, and_true, true_and, and_false, false_and]; rfl
  · simp only [am_I_wI, am_pu_s, am_pu_n, va_rf_s, va_rf_n, Option.bind_some, true_or, or_true, eq_self, if_true, if_false, ite_self, ite_true, ite_false, ↓reduceIte, reduceCtorEq, Nat.reduceEqDiff, Nat.reduceAdd, Nat.reduceLT, Nat.reduceLeDiff, Nat.reduceMul, Nat.reduceSub, not_true_eq_false, not_false_eq_true, and_self, and_true, true_and, and_false, false_and]; rfl
  · simp only [am_I_wI, am_pu_s, am_pu_n, va_rf_s, va_rf_n, Option.bind_some, true_or, or_true, eq_self, if_true, if_false, ite_self, ite_true, ite_false, ↓reduceIte, reduceCtorEq, Nat.reduceEqDiff, Nat.reduceAdd, Nat.reduceLT, Nat.reduceLeDiff, Nat.reduceMul, Nat.reduceSub, not_true_eq_false, not_false_eq_true, and_self, and_true, true_and, and_false, false_and]; exact c7
  · simp only [am_I_wI, am_pu_s, am_pu_n, va_rf_s, va_rf_n, Option.bind_some, true_or, or_true, eq_self, if_true, if_false, ite_self, ite_true, ite_false, ↓reduceIte, reduceCtorEq, Nat.reduceEqDiff, Nat.reduceAdd, Nat.reduceLT, Nat.reduceLeDiff, Nat.reduceMul, Nat.reduceSub, not_true_eq_false, not_false_eq_true, and_self, and_true, true_and, and_false, false_and]; exact c8
  · simp only [am_I_wI, am_pu_s, am_pu_n, va_rf_s, va_rf_n, Option.bind_some, true_or, or_true, eq_self, if_true, if_false, ite_self, ite_true, ite_false, ↓reduceIte, reduceCtorEq, Nat.reduceEqDiff, Nat.reduceAdd, Nat.reduceLT, Nat.reduceLeDiff, Nat.reduceMul, Nat.reduceSub, not_true_eq_false, not_false_eq_true, and_self, and_true, true_and, and_false, false_and]; exact cb j hj
  · have hj' : j < T 0 0 + 1 := hj
    simp only [am_I_wI, am_pu_s, am_pu_n, va_rf_s, va_rf_n, Option.bind_some, true_or, or_true, eq_self, if_true, if_false, ite_self, ite_true, ite_false, ↓reduceIte, reduceCtorEq, Nat.reduceEqDiff, Nat.reduceAdd, Nat.reduceLT, Nat.reduceLeDiff, Nat.reduceMul, Nat.reduceSub, not_true_eq_false, not_false_eq_true, and_self, and_true, true_and, and_false, false_and]
    show (if j = T 0 0 then nI (T 7 0) else am_I σ 5 j) = nI (if 10 = 10 ∧ j = T 0 0 then T 7 0 else T 10 j) ∧ (if j = T 0 0 then nI s else am_I σ 6 j) = nI (if 11 = 11 ∧ j = T 0 0 then s else T 11 j) ∧ (if j = T 0 0 then nI (T 4 0) else am_I σ 7 j) = nI (if 12 = 12 ∧ j = T 0 0 then T 4 0 else T 12 j)
    by_cases e : j = T 0 0
    · rw [if_pos e, if_pos e, if_pos e, if_pos ⟨rfl, e⟩, if_pos ⟨rfl, e⟩, if_pos ⟨rfl, e⟩]
      exact ⟨rfl, rfl, rfl⟩
    · rw [if_neg e, if_neg e, if_neg e, if_neg (fun q => e q.2), if_neg (fun q => e q.2), if_neg (fun q => e q.2)]
      exact cs j (by omega)
  · simp only [am_I_wI, am_pu_s, am_pu_n, va_rf_s, va_rf_n, Option.bind_some, true_or, or_true, eq_self, if_true, if_false, ite_self, ite_true, ite_false, ↓reduceIte, reduceCtorEq, Nat.reduceEqDiff, Nat.reduceAdd, Nat.reduceLT, Nat.reduceLeDiff, Nat.reduceMul, Nat.reduceSub, not_true_eq_false, not_false_eq_true, and_self, and_true, true_and, and_false, false_and]; rfl
  · exact absurd (show 2 ≤ 0 from q) (by decide)
  · exact absurd (show 0 = 1 from q) (by decide)
  · simp only [am_I_wI, am_pu_s, am_pu_n, va_rf_s, va_rf_n, Option.bind_some, true_or, or_true, eq_self, if_true, if_false, ite_self, ite_true, ite_false, ↓reduceIte, reduceCtorEq, Nat.reduceEqDiff, Nat.reduceAdd, Nat.reduceLT, Nat.reduceLeDiff, Nat.reduceMul, Nat.reduceSub, not_true_eq_false, not_false_eq_true, and_self, and_true, true_and, and_false, false_and]; rfl
  · simp only [am_I_wI, am_pu_s, am_pu_n, va_rf_s, va_rf_n, Option.bind_some, true_or, or_true, eq_self, if_true, if_false, ite_self, ite_true, ite_false, ↓reduceIte, reduceCtorEq, Nat.reduceEqDiff, Nat.reduceAdd, Nat.reduceLT, Nat.reduceLeDiff, Nat.reduceMul, Nat.reduceSub, not_true_eq_false, not_false_eq_true, and_self, and_true, true_and, and_false, false_and]
theorem cCo_w9 {i b : Nat} (h : cCo T σ) (hi : i < 60) : cCo (tW T 9 i b) (am_wI σ 4 i (nI b)) ∧ am_pr nsA σ (am_wI σ 4 i (nI b)) ∧ cKe σ (am_wI σ 4 i (nI b)) := by
  obtain ⟨hF, ⟨c0, c4, c6, c7, c8⟩, cb, cs⟩ := h
  refine ⟨⟨hF, ⟨?_, ?_, ?_, ?_, ?_⟩, fun j hj => ?_, fun j hj => ?_⟩, (am_pr.rf hF).w (by rfl), (cKe.rf σ).w (by omega) (by omega)⟩
  · simp only [am_I_wI, am_pu_s, am_pu_n, va_rf_s, va_rf_n, Option.bind_some, true_or, or_true, eq_self, if_true, if_false, ite_self, ite_true, ite_false, ↓reduceIte, reduceCtorEq, Nat.reduceEqDiff, Nat.reduceAdd, Nat.reduceLT, Nat.reduceLeDiff, Nat.reduceMul, Nat.reduceSub, not_true_eq_false, not_false_eq_true, and_self, and_true, true_and, and_false, false_and]; exact c0
  · simp only [am_I_wI, am_pu_s, am_pu_n, va_rf_s, va_rf_n, Option.bind_some, true_or, or_true, eq_self, if_true, if_false, ite_self, ite_true, ite_false, ↓reduceIte, reduceCtorEq, Nat.reduceEqDiff, Nat.reduceAdd, Nat.reduceLT, Nat.reduceLeDiff, Nat.reduceMul, Nat.reduceSub, not_true_eq_false, not_false_eq_true, and_self, and_true, true_and, and_false, false_and]; exact c4
  · simp only [am_I_wI, am_pu_s, am_pu_n, va_rf_s, va_rf_n, Option.bind_some, true_or, or_true, eq_self, if_true, if_false, ite_self, ite_true, ite_false, ↓reduceIte, reduceCtorEq, Nat.reduceEqDiff, Nat.reduceAdd, Nat.reduceLT, Nat.reduceLeDiff, Nat.reduceMul, Nat.reduceSub, not_true_eq_false, not_false_eq_true, and_self, and_true, true_and, and_false, false_and]; exact c6
  · simp only [am_I_wI, am_pu_s, am_pu_n, va_rf_s, va_rf_n, Option.bind_some, true_or, or_true, eq_self, if_true, if_false, ite_self, ite_true, ite_false, ↓reduceIte, reduceCtorEq, Nat.reduceEqDiff, Nat.reduceAdd, Nat.reduceLT, Nat.reduceLeDiff, Nat.reduceMul, Nat.reduceSub, not_true_eq_false, not_false_eq_true, and_self, and_true, true_and, and_false, false_and]; exact c7
  · simp only [am_I_wI, am_pu_s, am_pu_n, va_rf_s, va_rf_n, Option.bind_some, true_or, or_true, eq_self, if_true, if_false, ite_self, ite_true, ite_false, ↓reduceIte, reduceCtorEq, Nat.reduceEqDiff, Nat.reduceAdd, Nat.reduceLT, Nat.reduceLeDiff, Nat.reduceMul, Nat.reduceSub, not_true_eq_false, not_false_eq_true, and_self, and_true, true_and, and_false, false_and]; exact c8
  · by_cases e : j = i
    · rw [e, am_I_wI, if_pos ⟨rfl, rfl⟩, tW_e]
    · rw [am_I_wI, if_neg (by omega), tW_m e]
      exact cb j hj
  · simp only [am_I_wI, am_pu_s, am_pu_n, va_rf_s, va_rf_n, Option.bind_some, true_or, or_true, eq_self, if_true, if_false, ite_self, ite_true, ite_false, ↓reduceIte, reduceCtorEq, Nat.reduceEqDiff, Nat.reduceAdd, Nat.reduceLT, Nat.reduceLeDiff, Nat.reduceMul, Nat.reduceSub, not_true_eq_false, not_false_eq_true, and_self, and_true, true_and, and_false, false_and]; exact cs j hj
theorem m73 {a : Nat} (h : cCo T σ) (hB : tB T) (h1 : 1 ≤ T 7 0) (ha : a ≤ T 7 0) : ∃ σ', am_v X (d + 1) 73 [.ref (3 : Nat), .int (nI a)] σ = some (none, σ') ∧ cCo (tTu 60 a (T 7 0 - 1) T) σ' ∧ am_pr nsA σ σ' ∧ cKe σ σ' := by
  have loop : ∀ f i j (T1 : am_T) σ1 l4, j - i ≤ f → i ≤ 60 → j < T1 7 0 → tB T1 → cCo T1 σ1 → am_pr nsA σ σ1 → cKe σ σ1 → ∃ σ', am_w X d 73 9 [some (.ref (3 : Nat)), some (.int (nI a)), some (.int (nI i)), some (.int (nI j)), l4] [] σ1 = some (none, σ') ∧ cCo (tTu f i j T1) σ' ∧ am_pr nsA σ σ' ∧ cKe σ σ' := by
    intro f
    induction f with
    | zero =>
      intro i j T1 σ1 l4 hf hi hj hB1 h1 p1 k1
      have hB60 := hB1.1
      have t : nI j ≤ nI i := nI_le (by omega) (by omega)
      refine ⟨σ1, ?_, h1, p1, k1⟩
      rw [s73_9]
      simp only [s73_10, s73_11, s73_51, am_pu_s, am_pu_n, va_rf_s, va_rf_n, Option.bind_some, true_or, or_true, eq_self, if_true, if_false, ite_self, ite_true, ite_false, ↓reduceIte, reduceCtorEq, Nat.reduceEqDiff, Nat.reduceAdd, Nat.reduceLT, Nat.reduceLeDiff, Nat.reduceMul, Nat.reduceSub, not_true_eq_false, not_false_eq_true, and_self, and_true, true_and, and_false, false_and, t]
    | succ f ih =>
      intro i j T1 σ1 l4 hf hi hj hB1 h1 p1 k1
      have hB60 := hB1.1
      have hF1 := h1.1
      rw [tTu]
      by_cases c : i < j
      · rw [if_pos c]
        have t : ¬ nI j ≤ nI i := nI_ge c (by omega)
        have ri := h1.2.2.1 i (by omega)
        have rj := h1.2.2.1 j hj
        obtain ⟨h2, p2, k2⟩ := cCo_w9 (i := i) (b := T1 9 j) h1 (by omega)
        obtain ⟨h3, p3, k3⟩ := cCo_w9 (i := j) (b := T1 9 i) h2 (by omega)
        obtain ⟨w1, w2⟩ := tSm_sw hB1 (show i < T1 7 0 by omega) hj
        obtain ⟨σ', r1, r2⟩ := ih (i + 1) (j - 1) (tSw T1 i j) _ (some (.int (nI (T1 9 i)))) (by omega) (by omega) (by rw [w2]; omega) w1.2.2 h3 ((p1.tr p2).tr p3) ((k1.tr k2).tr k3)
        refine ⟨σ', ?_, r2⟩
        have e : nI j + (-1) = nI (j - 1) := by
          have := nI_pm (j - 1)
          rw [show j - 1 + 1 = j by omega] at this
          exact this
        rw [s73_9]
        simp only [s73_10, s73_11, s73_14, s73_15, s73_18, s73_19, s73_20, s73_22, s73_23, s73_26, s73_27, s73_28, s73_31, s73_32, s73_33, s73_34, s73_35, s73_38, s73_39, s73_41, s73_42, s73_45, s73_48, am_pu_s, am_pu_n, va_rf_s, va_rf_n, Option.bind_some, true_or, or_true, eq_self, if_true, if_false, ite_self, ite_true, ite_false, ↓reduceIte, reduceCtorEq, Nat.reduceEqDiff, Nat.reduceAdd, Nat.reduceLT, Nat.reduceLeDiff, Nat.reduceMul, Nat.reduceSub, not_true_eq_false, not_false_eq_true, and_self, and_true, true_and, and_false, false_and, hF1, h2.1, kd3, rr3_0, t, ix4 hF1 (show i < 60 by omega), ix4 hF1 (show j < 60 by omega), ix4 h2.1 (show j < 60 by omega), nI_cl (show i < 2147483648 by omega), nI_cl (show j < 2147483648 by omega), ri, rj, nI_add, e]
        exact r1
      · rw [if_neg c]
        have t : nI j ≤ nI i := nI_le (by omega) (by omega)
        refine ⟨σ1, ?_, h1, p1, k1⟩
        rw [s73_9]
        simp only [s73_10, s73_11, s73_51, am_pu_s, am_pu_n, va_rf_s, va_rf_n, Option.bind_some, true_or, or_true, eq_self, if_true, if_false, ite_self, ite_true, ite_false, ↓reduceIte, reduceCtorEq, Nat.reduceEqDiff, Nat.reduceAdd, Nat.reduceLT, Nat.reduceLeDiff, Nat.reduceMul, Nat.reduceSub, not_true_eq_false, not_false_eq_true, and_self, and_true, true_and, and_false, false_and, t]
  have hF := h.1
  have hB60 := hB.1
  obtain ⟨σ', r1, r2⟩ := loop 60 a (T 7 0 - 1) T σ none (by omega) (by omega) (by omega) hB h (am_pr.rf hF) (cKe.rf σ)
  refine ⟨σ', ?_, r2⟩
  rw [s73]
  simp only [s73_0, s73_1, s73_2, s73_3, s73_6, s73_7, s73_8, am_pu_s, am_pu_n, va_rf_s, va_rf_n, Option.bind_some, true_or, or_true, eq_self, if_true, if_false, ite_self, ite_true, ite_false, ↓reduceIte, reduceCtorEq, Nat.reduceEqDiff, Nat.reduceAdd, Nat.reduceLT, Nat.reduceLeDiff, Nat.reduceMul, Nat.reduceSub, not_true_eq_false, not_false_eq_true, and_self, and_true, true_and, and_false, false_and, hF, kd3, h.2.1.2.2.2.1, pk_sub h1]
  exact r1
theorem m72 {a n : Nat} (h : cCo T σ) (hB : tB T) (ha : a ≤ T 7 0) (hn : n ≤ 4) (hn1 : 1 ≤ n) : ∃ σ', am_v X (d + 2) 72 [.ref (3 : Nat), .int (nI a), .int (nI n)] σ = some (none, σ') ∧ cCo (tRp T a n) σ' ∧ am_pr nsA σ σ' ∧ cKe σ σ' := by
  have hB60 := hB.1
  have inner : ∀ t (T1 : am_T) l5 σ1, t < n → (cCo T1 σ1 ∧ tSm T T1 ∧ am_pr nsA σ σ1 ∧ cKe σ σ1) → ∃ σ', am_w X (d + 1) 72 8 [some (.ref (3 : Nat)), some (.int (nI a)), some (.int (nI n)), some (.int (nI (T 7 0))), some (.int (nI t)), l5] [] σ1 = am_w X (d + 1) 72 8 [some (.ref (3 : Nat)), some (.int (nI a)), some (.int (nI n)), some (.int (nI (T 7 0))), some (.int (nI (t + 1))), some (.int (nI (T 7 0)))] [] σ' ∧ (cCo (am_fd (fun k T2 => tAdd T2 (T2 9 k)) a (T 7 0 - a) T1) σ' ∧ tSm T (am_fd (fun k T2 => tAdd T2 (T2 9 k)) a (T 7 0 - a) T1) ∧ am_pr nsA σ σ' ∧ cKe σ σ') := by
    intro t T1 l5 σ1 ht hp
    obtain ⟨σ2, e2, p2⟩ := am_lps (fun k (_ : am_T) σ2 => am_w X (d + 1) 72 17 [some (.ref (3 : Nat)), some (.int (nI a)), some (.int (nI n)), some (.int (nI (T 7 0))), some (.int (nI t)), some (.int (nI k))] [] σ2) (fun k T2 => tAdd T2 (T2 9 k)) (T 7 0) (fun _ T2 σ2 => cCo T2 σ2 ∧ tSm T T2 ∧ am_pr nsA σ σ2 ∧ cKe σ σ2) (fun k T2 σ2 hk hp2 => by
      obtain ⟨g1, g2, g3, g4⟩ := hp2
      have hl := g2.2.1
      have hB2 := g2.2.2
      have hB260 := hB2.1
      obtain ⟨σ3, e3, q1, q2, q3⟩ := cCo_add (X := X) (d := d) (b := T2 9 k) g1 hB2.1
      refine ⟨σ3, ?_, q1, g2.tr (tSm_add hB2 (hB2.2.2 k (by omega))), g3.tr q2, g4.tr q3⟩
      have c0 : ¬ nI (T 7 0) ≤ nI k := nI_ge hk (by omega)
      try dsimp only
      rw [s72_17]
      simp only [s72_19, s72_20, s72_23, s72_24, s72_25, s72_28, s72_30, s72_31, s72_34, s72_37, am_pu_s, am_pu_n, va_rf_s, va_rf_n, Option.bind_some, true_or, or_true, eq_self, if_true, if_false, ite_self, ite_true, ite_false, ↓reduceIte, reduceCtorEq, Nat.reduceEqDiff, Nat.reduceAdd, Nat.reduceLT, Nat.reduceLeDiff, Nat.reduceMul, Nat.reduceSub, not_true_eq_false, not_false_eq_true, and_self, and_true, true_and, and_false, false_and, g1.1, kd3, rr3_0, c0, ix4 g1.1 (show k < 60 by omega), nI_cl (show k < 2147483648 by omega), g1.2.2.1 k (by omega), e3, nI_add]) (T 7 0 - a) a T1 σ1 (by omega) hp
    refine ⟨σ2, ?_, p2⟩
    have c0 : ¬ nI n ≤ nI t := nI_ge ht (by omega)
    rw [s72_8]
    simp only [s72_10, s72_11, s72_14, s72_15, am_pu_s, am_pu_n, va_rf_s, va_rf_n, Option.bind_some, true_or, or_true, eq_self, if_true, if_false, ite_self, ite_true, ite_false, ↓reduceIte, reduceCtorEq, Nat.reduceEqDiff, Nat.reduceAdd, Nat.reduceLT, Nat.reduceLeDiff, Nat.reduceMul, Nat.reduceSub, not_true_eq_false, not_false_eq_true, and_self, and_true, true_and, and_false, false_and, c0]
    refine Eq.trans e2 ?_
    try dsimp only
    rw [s72_17]
    simp only [s72_19, s72_20, s72_40, s72_43, am_pu_s, am_pu_n, va_rf_s, va_rf_n, Option.bind_some, true_or, or_true, eq_self, if_true, if_false, ite_self, ite_true, ite_false, ↓reduceIte, reduceCtorEq, Nat.reduceEqDiff, Nat.reduceAdd, Nat.reduceLT, Nat.reduceLeDiff, Nat.reduceMul, Nat.reduceSub, not_true_eq_false, not_false_eq_true, and_self, and_true, true_and, and_false, false_and, Int32.le_refl, nI_add]
  have hF := h.1
  obtain ⟨σ2, e2, p2⟩ := am_lps (fun t (q : am_T × Option Value) σ2 => am_w X (d + 1) 72 8 [some (.ref (3 : Nat)), some (.int (nI a)), some (.int (nI n)), some (.int (nI (T 7 0))), some (.int (nI t)), q.2] [] σ2) (fun _ q => (am_fd (fun k T2 => tAdd T2 (T2 9 k)) a (T 7 0 - a) q.1, some (.int (nI (T 7 0))))) n (fun _ q σ2 => cCo q.1 σ2 ∧ tSm T q.1 ∧ am_pr nsA σ σ2 ∧ cKe σ σ2) (fun t q σ2 ht hp => inner t q.1 q.2 σ2 ht hp) (n - 1) 1 (T, none) σ (by omega) ⟨h, tSm.rf hB, am_pr.rf hF, cKe.rf σ⟩
  have f2 := am_fd_fst (fun (_ : Nat) T1 => am_fd (fun k T2 => tAdd T2 (T2 9 k)) a (T 7 0 - a) T1) (some (Value.int (nI (T 7 0)))) (n - 1) 1 (T, none)
  dsimp only at p2 f2 e2
  rw [f2] at p2
  refine ⟨σ2, ?_, p2.1, p2.2.2⟩
  rw [s72]
  simp only [s72_0, s72_1, s72_4, s72_5, s72_6, am_pu_s, am_pu_n, va_rf_s, va_rf_n, Option.bind_some, true_or, or_true, eq_self, if_true, if_false, ite_self, ite_true, ite_false, ↓reduceIte, reduceCtorEq, Nat.reduceEqDiff, Nat.reduceAdd, Nat.reduceLT, Nat.reduceLeDiff, Nat.reduceMul, Nat.reduceSub, not_true_eq_false, not_false_eq_true, and_self, and_true, true_and, and_false, false_and, hF, kd3, h.2.1.2.2.2.1]
  refine Eq.trans e2 ?_
  rw [s72_8]
  simp only [s72_10, s72_11, s72_46, am_pu_s, am_pu_n, va_rf_s, va_rf_n, Option.bind_some, true_or, or_true, eq_self, if_true, if_false, ite_self, ite_true, ite_false, ↓reduceIte, reduceCtorEq, Nat.reduceEqDiff, Nat.reduceAdd, Nat.reduceLT, Nat.reduceLeDiff, Nat.reduceMul, Nat.reduceSub, not_true_eq_false, not_false_eq_true, and_self, and_true, true_and, and_false, false_and, Int32.le_refl]
theorem m71 (h : cCo T σ) (hO : tOK T k) (hk : k < 40) (h51 : T 5 0 = 1) (h0 : 0 < T 0 0) : ∃ σ', am_v X (d + 3) 71 [.ref (3 : Nat)] σ = some (some (.int (nI 1)), σ') ∧ cRd (tCl T) σ' ∧ am_pr nsA σ σ' ∧ am_I σ' 3 10 = am_I σ 3 10 := by
  have h' := h
  obtain ⟨hF, ⟨c0, c4, c6, c7, c8⟩, cb, cs⟩ := h'
  obtain ⟨⟨a0, a1, a4, a5, a6⟩, h2, h3, h5, hB, hs⟩ := hO
  obtain ⟨g1, g2, g3⟩ := h5 h51
  obtain ⟨o, ho⟩ : ∃ o, T 0 0 = o + 1 := ⟨T 0 0 - 1, by omega⟩
  have ho1 : T 0 0 - 1 = o := by omega
  have hB60 := hB.1
  obtain ⟨r5, r6, r7⟩ := cs o (by omega)
  obtain ⟨q5, q6, q61, q7⟩ := hs o (by omega)
  have hC1 : cCo (tC1 T) (am_wI σ 3 4 (nI o)) := by
    refine ⟨hF, ⟨?_, ?_, ?_, ?_, ?_⟩, fun j hj => ?_, fun j hj => ?_⟩
    · simp only [am_I_wI, am_pu_s, am_pu_n, va_rf_s, va_rf_n, Option.bind_some, true_or, or_true, eq_self, if_true, if_false, ite_self, ite_true, ite_false, ↓reduceIte, reduceCtorEq, Nat.reduceEqDiff, Nat.reduceAdd, Nat.reduceLT, Nat.reduceLeDiff, Nat.reduceMul, Nat.reduceSub, not_true_eq_false, not_false_eq_true, and_self, and_true, true_and, and_false, false_and]; rw [← ho1]; rfl
    · simp only [am_I_wI, am_pu_s, am_pu_n, va_rf_s, va_rf_n, Option.bind_some, true_or, or_true, eq_self, if_true, if_false, ite_self, ite_true, ite_false, ↓reduceIte, reduceCtorEq, Nat.reduceEqDiff, Nat.reduceAdd, Nat.reduceLT, Nat.reduceLeDiff, Nat.reduceMul, Nat.reduceSub, not_true_eq_false, not_false_eq_true, and_self, and_true, true_and, and_false, false_and]; exact c4
    · simp only [am_I_wI, am_pu_s, am_pu_n, va_rf_s, va_rf_n, Option.bind_some, true_or, or_true, eq_self, if_true, if_false, ite_self, ite_true, ite_false, ↓reduceIte, reduceCtorEq, Nat.reduceEqDiff, Nat.reduceAdd, Nat.reduceLT, Nat.reduceLeDiff, Nat.reduceMul, Nat.reduceSub, not_true_eq_false, not_false_eq_true, and_self, and_true, true_and, and_false, false_and]; exact c6
    · simp only [am_I_wI, am_pu_s, am_pu_n, va_rf_s, va_rf_n, Option.bind_some, true_or, or_true, eq_self, if_true, if_false, ite_self, ite_true, ite_false, ↓reduceIte, reduceCtorEq, Nat.reduceEqDiff, Nat.reduceAdd, Nat.reduceLT, Nat.reduceLeDiff, Nat.reduceMul, Nat.reduceSub, not_true_eq_false, not_false_eq_true, and_self, and_true, true_and, and_false, false_and]; exact c7
    · simp only [am_I_wI, am_pu_s, am_pu_n, va_rf_s, va_rf_n, Option.bind_some, true_or, or_true, eq_self, if_true, if_false, ite_self, ite_true, ite_false, ↓reduceIte, reduceCtorEq, Nat.reduceEqDiff, Nat.reduceAdd, Nat.reduceLT, Nat.reduceLeDiff, Nat.reduceMul, Nat.reduceSub, not_true_eq_false, not_false_eq_true, and_self, and_true, true_and, and_false, false_and]; exact c8
    · simp only [am_I_wI, am_pu_s, am_pu_n, va_rf_s, va_rf_n, Option.bind_some, true_or, or_true, eq_self, if_true, if_false, ite_self, ite_true, ite_false, ↓reduceIte, reduceCtorEq, Nat.reduceEqDiff, Nat.reduceAdd, Nat.reduceLT, Nat.reduceLeDiff, Nat.reduceMul, Nat.reduceSub, not_true_eq_false, not_false_eq_true, and_self, and_true, true_and, and_false, false_and]; exact cb j hj
    · have hj' : j < T 0 0 - 1 := hj
      simp only [am_I_wI, am_pu_s, am_pu_n, va_rf_s, va_rf_n, Option.bind_some, true_or, or_true, eq_self, if_true, if_false, ite_self, ite_true, ite_false, ↓reduceIte, reduceCtorEq, Nat.reduceEqDiff, Nat.reduceAdd, Nat.reduceLT, Nat.reduceLeDiff, Nat.reduceMul, Nat.reduceSub, not_true_eq_false, not_false_eq_true, and_self, and_true, true_and, and_false, false_and]; exact cs j (by omega)
  have hp1 : am_pr nsA σ (am_wI σ 3 4 (nI o)) := (am_pr.rf hF).w (by rfl)
  have hk1 : cKe σ (am_wI σ 3 4 (nI o)) := (cKe.rf σ).w (by omega) (by omega)
  have hF1 : am_F (am_wI σ 3 4 (nI o)) := hF
  have e4 : nI (o + 1) - nI 1 = nI o := by rw [pk_sub (by omega)]; rfl
  have e6 : (nI (T 11 o) = nI 0) = (T 11 o = 0) := nI_EQ (by omega) (by decide)
  rw [ho] at c0
  have step1 : ∃ σ2, am_w X (d + 2) 71 0 [some (.ref (3 : Nat)), none, none] [] σ = am_w X (d + 2) 71 56 [some (.ref (3 : Nat)), some (.int (nI (T 10 o))), some (.int (nI (T 10 o)))] [] σ2 ∧ cCo (tC2 T) σ2 ∧ am_pr nsA σ σ2 ∧ cKe σ σ2 := by
    unfold tC2
    rw [ho1]
    by_cases c : T 11 o = 0
    · obtain ⟨σ2, e2, h2, p2, k2⟩ := m73 (X := X) (d := d + 1) (a := T 10 o) hC1 (tB_c1 hB) (show 1 ≤ T 7 0 from g3) (show T 10 o ≤ T 7 0 from q5)
      refine ⟨σ2, ?_, by rw [if_pos c]; exact h2, hp1.tr p2, hk1.tr k2⟩
      simp only [s71_0, s71_1, s71_2, s71_5, s71_6, s71_7, s71_10, s71_11, s71_14, s71_15, s71_18, s71_19, s71_20, s71_21, s71_24, s71_25, s71_28, s71_29, s71_32, s71_33, s71_34, s71_37, s71_40, s71_41, s71_42, s71_43, s71_46, s71_47, s71_50, s71_51, s71_54, s71_55, am_pu_s, am_pu_n, va_rf_s, va_rf_n, Option.bind_some, true_or, or_true, eq_self, if_true, if_false, ite_self, ite_true, ite_false, ↓reduceIte, reduceCtorEq, Nat.reduceEqDiff, Nat.reduceAdd, Nat.reduceLT, Nat.reduceLeDiff, Nat.reduceMul, Nat.reduceSub, not_true_eq_false, not_false_eq_true, and_self, and_true, true_and, and_false, false_and, am_I_wI, am_I_wJ, am_J_wI, am_J_wJ, am_R_wI, am_R_wJ, am_kd_wI, am_kd_wJ, am_ln_wI, am_ln_wJ, am_ix_wI, am_ix_wJ, am_F_wI, am_F_wJ, am_I_wC, am_J_wC, am_R_wC, am_kd_wC, am_ln_wC, am_ix_wC, am_F_wC, hF, kd3, rr3_1, rr3_2, c0, e4, ix5 hF (show o < 40 by omega), ix6 hF (show o < 40 by omega), nI_cl (show o < 2147483648 by omega), r5, r6, e6, c, e2]
    · obtain ⟨σ2, e2, h2, p2, k2⟩ := m72 (X := X) (d := d) (a := T 10 o) (n := T 11 o) hC1 (tB_c1 hB) (show T 10 o ≤ T 7 0 from q5) q6 (by omega)
      refine ⟨σ2, ?_, by rw [if_neg c]; exact h2, hp1.tr p2, hk1.tr k2⟩
      simp only [s71_0, s71_1, s71_2, s71_5, s71_6, s71_7, s71_10, s71_11, s71_14, s71_15, s71_18, s71_19, s71_20, s71_21, s71_24, s71_25, s71_28, s71_29, s71_32, s71_33, s71_34, s71_37, s71_40, s71_41, s71_42, s71_43, s71_46, s71_47, s71_50, s71_51, s71_54, s71_55, am_pu_s, am_pu_n, va_rf_s, va_rf_n, Option.bind_some, true_or, or_true, eq_self, if_true, if_false, ite_self, ite_true, ite_false, ↓reduceIte, reduceCtorEq, Nat.reduceEqDiff, Nat.reduceAdd, Nat.reduceLT, Nat.reduceLeDiff, Nat.reduceMul, Nat.reduceSub, not_true_eq_false, not_false_eq_true, and_self, and_true, true_and, and_false, false_and, am_I_wI, am_I_wJ, am_J_wI, am_J_wJ, am_R_wI, am_R_wJ, am_kd_wI, am_kd_wJ, am_ln_wI, am_ln_wJ, am_ix_wI, am_ix_wJ, am_F_wI, am_F_wJ, am_I_wC, am_J_wC, am_R_wC, am_kd_wC, am_ln_wC, am_ix_wC, am_F_wC, hF, kd3, rr3_1, rr3_2, c0, e4, ix5 hF (show o < 40 by omega), ix6 hF (show o < 40 by omega), nI_cl (show o < 2147483648 by omega), r5, r6, e6, c, e2]
  obtain ⟨σ2, e2, h2', p2, k2⟩ := step1
  have s2 := tSm_c2 hB g3
  have r72 : am_I σ2 7 o = nI (T 12 o) := by rw [k2.2 7 o (by omega)]; exact r7
  have z0 : tC2 T 0 0 = o := by
    rw [s2.1 0 0 (by decide) (by decide) (by decide)]
    exact ho1
  have z7 : T 7 0 ≤ tC2 T 7 0 := s2.2.1
  have z60 := s2.2.2.1
  obtain ⟨σ3, e3, p3⟩ := am_lps (fun k (_ : am_T) σ3 => am_w X (d + 2) 71 56 [some (.ref (3 : Nat)), some (.int (nI (T 10 o))), some (.int (nI k))] [] σ3) (fun k T1 => tW T1 9 k (sRa (T1 9 k) (T 12 o))) (tC2 T 7 0) (fun _ T1 σ3 => cCo T1 σ3 ∧ (tSm (tC2 T) T1 ∧ T1 7 0 = tC2 T 7 0) ∧ am_pr nsA σ σ3 ∧ cKe σ σ3) (fun k T1 σ3 hk hp => by
    obtain ⟨f1, f2, f3, f4⟩ := hp
    have fb := f2.1.2.2.2.2 k (by omega)
    obtain ⟨w1, w2, w3⟩ := cCo_w9 (i := k) (b := sRa (T1 9 k) (T 12 o)) f1 (by omega)
    have t9 := tSm_w9 (i := k) f2.1.2.2 (sRa_lt (x := T 12 o) fb)
    refine ⟨_, ?_, w1, ⟨f2.1.tr t9.1, by rw [t9.2, f2.2]⟩, f3.tr w2, f4.tr w3⟩
    have c0 : ¬ nI (tC2 T 7 0) ≤ nI k := nI_ge hk (by omega)
    have r12 := f1.2.1.2.2.2.1
    rw [f2.2] at r12
    have r4 := f1.2.1.1
    rw [f2.1.1 0 0 (by decide) (by decide) (by decide), z0] at r4
    have r7' : am_I σ3 7 o = nI (T 12 o) := by rw [f4.2 7 o (by omega)]; exact r7
    have e1 := m121 (X := X) (d := d) (σ := σ3) fb (show T 12 o < 64 by omega)
    try dsimp only
    rw [s71_56]
    simp only [s71_57, s71_58, s71_61, s71_64, s71_65, s71_68, s71_69, s71_70, s71_73, s71_74, s71_75, s71_76, s71_79, s71_80, s71_83, s71_84, s71_87, s71_88, s71_91, am_pu_s, am_pu_n, va_rf_s, va_rf_n, Option.bind_some, true_or, or_true, eq_self, if_true, if_false, ite_self, ite_true, ite_false, ↓reduceIte, reduceCtorEq, Nat.reduceEqDiff, Nat.reduceAdd, Nat.reduceLT, Nat.reduceLeDiff, Nat.reduceMul, Nat.reduceSub, not_true_eq_false, not_false_eq_true, and_self, and_true, true_and, and_false, false_and, f1.1, kd3, rr3_0, rr3_3, r12, c0, ix4 f1.1 (show k < 60 by omega), nI_cl (show k < 2147483648 by omega), f1.2.2.1 k (by omega), r4, ix7 f1.1 (show o < 40 by omega), nI_cl (show o < 2147483648 by omega), r7', e1, nI_add]) (tC2 T 7 0 - T 10 o) (T 10 o) (tC2 T) σ2 (by omega) ⟨h2', ⟨tSm.rf s2.2.2, rfl⟩, p2, k2⟩
  have e3' : am_fd (fun k T1 => tW T1 9 k (sRa (T1 9 k) (T 12 o))) (T 10 o) (tC2 T 7 0 - T 10 o) (tC2 T) = tCl T := by
    unfold tCl tRi
    rw [ho1]
  rw [e3'] at p3
  obtain ⟨f1, f2, f3, f4⟩ := p3
  obtain ⟨i1, i2⟩ := cCo_it f1
  have it : tIt (tCl T) = tCl T := by
    funext a b
    have u : ∀ a, ¬ a = 7 → ¬ a = 8 → ¬ a = 9 → ¬ a = 0 → tCl T a b = T a b := fun a q1 q2 q3 q4 => by
      rw [f2.1.1 a b q1 q2 q3, s2.1 a b q1 q2 q3]
      exact tW_n q4
    unfold tIt
    by_cases q5 : a = 5 ∧ b = 0
    · rw [q5.1, q5.2, tW_e]
      rw [q5.2] at u
      rw [u 5 (by decide) (by decide) (by decide) (by decide), h51]
    · by_cases q1 : a = 1 ∧ b = 0
      · rw [q1.1, q1.2, tW_n (by decide), tW_e]
        rw [q1.2] at u
        rw [u 1 (by decide) (by decide) (by decide) (by decide), g1]
      · by_cases q4 : a = 4 ∧ b = 0
        · rw [q4.1, q4.2, tW_n (by decide), tW_n (by decide), tW_e]
          rw [q4.2] at u
          rw [u 4 (by decide) (by decide) (by decide) (by decide), g2]
        · unfold tW
          rw [if_neg q5, if_neg q1, if_neg q4]
  rw [it] at i1
  refine ⟨_, ?_, i1, f3.tr i2, ?_⟩
  · rw [s71]
    refine Eq.trans e2 ?_
    refine Eq.trans e3 ?_
    have r12 := f1.2.1.2.2.2.1
    rw [f2.2] at r12
    try dsimp only
    rw [s71_56]
    simp only [s71_57, s71_58, s71_61, s71_94, s71_95, s71_98, am_pu_s, am_pu_n, va_rf_s, va_rf_n, Option.bind_some, true_or, or_true, eq_self, if_true, if_false, ite_self, ite_true, ite_false, ↓reduceIte, reduceCtorEq, Nat.reduceEqDiff, Nat.reduceAdd, Nat.reduceLT, Nat.reduceLeDiff, Nat.reduceMul, Nat.reduceSub, not_true_eq_false, not_false_eq_true, and_self, and_true, true_and, and_false, false_and, f1.1, kd3, r12, Int32.le_refl, m69 f1.1]
  · simp only [am_I_wI, am_pu_s, am_pu_n, va_rf_s, va_rf_n, Option.bind_some, true_or, or_true, eq_self, if_true, if_false, ite_self, ite_true, ite_false, ↓reduceIte, reduceCtorEq, Nat.reduceEqDiff, Nat.reduceAdd, Nat.reduceLT, Nat.reduceLeDiff, Nat.reduceMul, Nat.reduceSub, not_true_eq_false, not_false_eq_true, and_self, and_true, true_and, and_false, false_and]
    exact f4.1 10 (by omega)
theorem b_pw : ∀ j, j < 7 → nI 1 <<< (nI j &&& 31) = nI (2 ^ j) := by decide +kernel
theorem note_b {c : Nat} (hc : c < 200) : (nI 97 ≤ nI c ∧ nI c ≤ nI 103) ↔ (97 ≤ c ∧ c ≤ 103) := ⟨fun q => ⟨(nI_leI (by decide) (by omega)).mp q.1, (nI_leI (by omega) (by decide)).mp q.2⟩, fun q => ⟨nI_le q.1 (by omega), nI_le q.2 (by decide)⟩⟩
theorem m66 {c : Nat} (h : cRd T σ) (hO : tOK T k) (hk : k < 40) (hc : c < 200) (hm : 2 ≤ T 1 0) : ∃ σ', am_v X (d + 4) 66 [.ref (3 : Nat), .int (nI c)] σ = some (some (.int (rBo (rdS T c))), σ') ∧ cRd ((rdS T c).getD T) σ' ∧ am_pr nsA σ σ' ∧ am_I σ' 3 10 = am_I σ 3 10 := by
  obtain ⟨hC, hM⟩ := h
  have hF := hC.1
  have hO' := hO
  obtain ⟨⟨a0, a1, a4, a5, a6⟩, h2, h3, h5, hB, hs⟩ := hO'
  have hch := hM.2.1 hm
  obtain ⟨b1, b2⟩ := h2 hm
  have m0 : ¬ T 1 0 = 0 := by omega
  have m1 : ¬ T 1 0 = 1 := by omega
  rw [s66]
  unfold rdS
  rw [if_neg m0, if_neg m1]
  by_cases cn : 97 ≤ c ∧ c ≤ 103
  · rw [if_pos cn]
    have hb := (note_b hc).mpr cn
    have e1 : nI c - nI 97 = nI (c - 97) := pk_sub cn.1
    have e2 := b_pw (c - 97) (by omega)
    have e3 : nI (T 2 0) ||| nI (2 ^ (c - 97)) = nI (T 2 0 ||| 2 ^ (c - 97)) := nI_or _ b1 _ (c_pw _ (by omega))
    refine ⟨am_wI σ 3 6 (nI (T 2 0 ||| 2 ^ (c - 97))), ?_, ⟨⟨hF, ⟨?_, ?_, ?_, ?_, ?_⟩, fun j hj => ?_, fun j hj => ?_⟩, ?_, fun q => ?_, fun q => ?_, ?_⟩, (am_pr.rf hF).w (by rfl), ?_⟩
    · simp only [s66_0, s66_1, s66_4, s66_7, s66_8, s66_9, s66_12, s66_13, s66_14, s66_16, s66_17, s66_18, s66_19, s66_22, s66_23, s66_24, s66_25, s66_27, s66_30, s66_31, s66_34, s66_37, s66_38, s66_39, s66_42, s66_45, s66_48, s66_49, s66_52, s66_53, am_pu_s, am_pu_n, va_rf_s, va_rf_n, Option.bind_some, true_or, or_true, eq_self, if_true, if_false, ite_self, ite_true, ite_false, ↓reduceIte, reduceCtorEq, Nat.reduceEqDiff, Nat.reduceAdd, Nat.reduceLT, Nat.reduceLeDiff, Nat.reduceMul, Nat.reduceSub, not_true_eq_false, not_false_eq_true, and_self, and_true, true_and, and_false, false_and, hF, kd3, m120, bI_t hb, nI_10, hch, e1, e2, e3, rBo]
    · simp only [am_I_wI, am_pu_s, am_pu_n, va_rf_s, va_rf_n, Option.bind_some, true_or, or_true, eq_self, if_true, if_false, ite_self, ite_true, ite_false, ↓reduceIte, reduceCtorEq, Nat.reduceEqDiff, Nat.reduceAdd, Nat.reduceLT, Nat.reduceLeDiff, Nat.reduceMul, Nat.reduceSub, not_true_eq_false, not_false_eq_true, and_self, and_true, true_and, and_false, false_and]; exact hC.2.1.1
    · simp only [am_I_wI, am_pu_s, am_pu_n, va_rf_s, va_rf_n, Option.bind_some, true_or, or_true, eq_self, if_true, if_false, ite_self, ite_true, ite_false, ↓reduceIte, reduceCtorEq, Nat.reduceEqDiff, Nat.reduceAdd, Nat.reduceLT, Nat.reduceLeDiff, Nat.reduceMul, Nat.reduceSub, not_true_eq_false, not_false_eq_true, and_self, and_true, true_and, and_false, false_and]; exact hC.2.1.2.1
    · simp only [am_I_wI, am_pu_s, am_pu_n, va_rf_s, va_rf_n, Option.bind_some, true_or, or_true, eq_self, if_true, if_false, ite_self, ite_true, ite_false, ↓reduceIte, reduceCtorEq, Nat.reduceEqDiff, Nat.reduceAdd, Nat.reduceLT, Nat.reduceLeDiff, Nat.reduceMul, Nat.reduceSub, not_true_eq_false, not_false_eq_true, and_self, and_true, true_and, and_false, false_and]; exact hC.2.1.2.2.1
    · simp only [am_I_wI, am_pu_s, am_pu_n, va_rf_s, va_rf_n, Option.bind_some, true_or, or_true, eq_self, if_true, if_false, ite_self, ite_true, ite_false, ↓reduceIte, reduceCtorEq, Nat.reduceEqDiff, Nat.reduceAdd, Nat.reduceLT, Nat.reduceLeDiff, Nat.reduceMul, Nat.reduceSub, not_true_eq_false, not_false_eq_true, and_self, and_true, true_and, and_false, false_and]; exact hC.2.1.2.2.2.1
    · simp only [am_I_wI, am_pu_s, am_pu_n, va_rf_s, va_rf_n, Option.bind_some, true_or, or_true, eq_self, if_true, if_false, ite_self, ite_true, ite_false, ↓reduceIte, reduceCtorEq, Nat.reduceEqDiff, Nat.reduceAdd, Nat.reduceLT, Nat.reduceLeDiff, Nat.reduceMul, Nat.reduceSub, not_true_eq_false, not_false_eq_true, and_self, and_true, true_and, and_false, false_and]; exact hC.2.1.2.2.2.2
    · simp only [am_I_wI, am_pu_s, am_pu_n, va_rf_s, va_rf_n, Option.bind_some, true_or, or_true, eq_self, if_true, if_false, ite_self, ite_true, ite_false, ↓reduceIte, reduceCtorEq, Nat.reduceEqDiff, Nat.reduceAdd, Nat.reduceLT, Nat.reduceLeDiff, Nat.reduceMul, Nat.reduceSub, not_true_eq_false, not_false_eq_true, and_self, and_true, true_and, and_false, false_and]; exact hC.2.2.1 j hj
    · simp only [am_I_wI, am_pu_s, am_pu_n, va_rf_s, va_rf_n, Option.bind_some, true_or, or_true, eq_self, if_true, if_false, ite_self, ite_true, ite_false, ↓reduceIte, reduceCtorEq, Nat.reduceEqDiff, Nat.reduceAdd, Nat.reduceLT, Nat.reduceLeDiff, Nat.reduceMul, Nat.reduceSub, not_true_eq_false, not_false_eq_true, and_self, and_true, true_and, and_false, false_and]; exact hC.2.2.2 j hj
    · have e := hM.1
      rw [if_neg m0, if_neg m1] at e
      simp only [am_I_wI, am_pu_s, am_pu_n, va_rf_s, va_rf_n, Option.bind_some, true_or, or_true, eq_self, if_true, if_false, ite_self, ite_true, ite_false, ↓reduceIte, reduceCtorEq, Nat.reduceEqDiff, Nat.reduceAdd, Nat.reduceLT, Nat.reduceLeDiff, Nat.reduceMul, Nat.reduceSub, not_true_eq_false, not_false_eq_true, and_self, and_true, true_and, and_false, false_and]; exact e
    · simp only [am_I_wI, am_pu_s, am_pu_n, va_rf_s, va_rf_n, Option.bind_some, true_or, or_true, eq_self, if_true, if_false, ite_self, ite_true, ite_false, ↓reduceIte, reduceCtorEq, Nat.reduceEqDiff, Nat.reduceAdd, Nat.reduceLT, Nat.reduceLeDiff, Nat.reduceMul, Nat.reduceSub, not_true_eq_false, not_false_eq_true, and_self, and_true, true_and, and_false, false_and]; rfl
    · exact absurd (show 3 = 1 from q) (by decide)
    · simp only [am_I_wI, am_pu_s, am_pu_n, va_rf_s, va_rf_n, Option.bind_some, true_or, or_true, eq_self, if_true, if_false, ite_self, ite_true, ite_false, ↓reduceIte, reduceCtorEq, Nat.reduceEqDiff, Nat.reduceAdd, Nat.reduceLT, Nat.reduceLeDiff, Nat.reduceMul, Nat.reduceSub, not_true_eq_false, not_false_eq_true, and_self, and_true, true_and, and_false, false_and]; exact hM.2.2.2
    · simp only [am_I_wI, am_pu_s, am_pu_n, va_rf_s, va_rf_n, Option.bind_some, true_or, or_true, eq_self, if_true, if_false, ite_self, ite_true, ite_false, ↓reduceIte, reduceCtorEq, Nat.reduceEqDiff, Nat.reduceAdd, Nat.reduceLT, Nat.reduceLeDiff, Nat.reduceMul, Nat.reduceSub, not_true_eq_false, not_false_eq_true, and_self, and_true, true_and, and_false, false_and]
  · rw [if_neg cn]
    have hb : ¬ (nI 97 ≤ nI c ∧ nI c ≤ nI 103) := fun q => cn ((note_b hc).mp q)
    have e41 : (nI c = nI 41) = (c = 41) := nI_EQ (by omega) (by decide)
    have e0 : (nI (T 2 0) = nI 0) = (T 2 0 = 0) := nI_EQ (by omega) (by decide)
    by_cases c1 : T 1 0 = 3 ∧ c = 41
    · rw [if_pos c1]
      have n0 : ¬ T 2 0 = 0 := fun q => by have := b2.mp q; omega
      obtain ⟨σ2, e2, h2, p2, k2⟩ := m68 (X := X) (d := d) hC hB (by omega) b1
      refine ⟨σ2, ?_, h2, p2, k2⟩
      have e41t : (nI c = nI 41) = True := by rw [e41]; exact eq_true c1.2
      simp only [s66_0, s66_1, s66_4, s66_7, s66_8, s66_9, s66_12, s66_13, s66_14, s66_16, s66_17, s66_18, s66_19, s66_22, s66_23, s66_24, s66_25, s66_27, s66_30, s66_31, s66_34, s66_37, s66_38, s66_39, s66_42, s66_45, s66_48, s66_49, s66_52, s66_53, am_pu_s, am_pu_n, va_rf_s, va_rf_n, Option.bind_some, true_or, or_true, eq_self, if_true, if_false, ite_self, ite_true, ite_false, ↓reduceIte, reduceCtorEq, Nat.reduceEqDiff, Nat.reduceAdd, Nat.reduceLT, Nat.reduceLeDiff, Nat.reduceMul, Nat.reduceSub, not_true_eq_false, not_false_eq_true, and_self, and_true, true_and, and_false, false_and, hF, kd3, m120, bI_f hb, e41t, hch, e0, n0, e2, nI_10, rBo]
    · rw [if_neg c1]
      refine ⟨σ, ?_, ⟨hC, hM⟩, am_pr.rf hF, rfl⟩
      by_cases c2 : c = 41
      · have n0 : T 2 0 = 0 := b2.mpr (by omega)
        have e41t : (nI c = nI 41) = True := by rw [e41]; exact eq_true c2
        simp only [s66_0, s66_1, s66_4, s66_7, s66_8, s66_9, s66_12, s66_13, s66_14, s66_16, s66_17, s66_18, s66_19, s66_22, s66_23, s66_24, s66_25, s66_27, s66_30, s66_31, s66_34, s66_37, s66_38, s66_39, s66_42, s66_45, s66_48, s66_49, s66_52, s66_53, am_pu_s, am_pu_n, va_rf_s, va_rf_n, Option.bind_some, true_or, or_true, eq_self, if_true, if_false, ite_self, ite_true, ite_false, ↓reduceIte, reduceCtorEq, Nat.reduceEqDiff, Nat.reduceAdd, Nat.reduceLT, Nat.reduceLeDiff, Nat.reduceMul, Nat.reduceSub, not_true_eq_false, not_false_eq_true, and_self, and_true, true_and, and_false, false_and, hF, kd3, m120, bI_f hb, e41t, hch, e0, n0, rBo]
      · simp only [s66_0, s66_1, s66_4, s66_7, s66_8, s66_9, s66_12, s66_13, s66_14, s66_16, s66_17, s66_18, s66_19, s66_22, s66_23, s66_24, s66_25, s66_27, s66_30, s66_31, s66_34, s66_37, s66_38, s66_39, s66_42, s66_45, s66_48, s66_49, s66_52, s66_53, am_pu_s, am_pu_n, va_rf_s, va_rf_n, Option.bind_some, true_or, or_true, eq_self, if_true, if_false, ite_self, ite_true, ite_false, ↓reduceIte, reduceCtorEq, Nat.reduceEqDiff, Nat.reduceAdd, Nat.reduceLT, Nat.reduceLeDiff, Nat.reduceMul, Nat.reduceSub, not_true_eq_false, not_false_eq_true, and_self, and_true, true_and, and_false, false_and, hF, kd3, m120, bI_f hb, e41, c2, rBo]
theorem m65 {c : Nat} (h : cRd T σ) (hO : tOK T k) (hk : k < 40) (hc : c < 200) : ∃ σ', am_v X (d + 5) 65 [.ref (3 : Nat), .int (nI c)] σ = some (some (.int (rBo (rdS T c))), σ') ∧ cRd ((rdS T c).getD T) σ' ∧ am_pr nsA σ σ' ∧ am_I σ' 3 10 = am_I σ 3 10 := by
  have h' := h
  obtain ⟨hC, hM⟩ := h'
  have hF := hC.1
  have hO' := hO
  obtain ⟨⟨a0, a1, a4, a5, a6⟩, h2, h3, h5, hB, hs⟩ := hO'
  have hnx := hM.1
  have n21 : ¬ nI 2 = nI 1 := by decide +kernel
  have n01 : ¬ nI 0 = nI 1 := by decide +kernel
  have n02 : ¬ nI 0 = nI 2 := by decide +kernel
  have hC' := hC
  obtain ⟨_, ⟨c0, c4, c6, c7, c8⟩, cb, cs⟩ := hC'
  by_cases m2 : 2 ≤ T 1 0
  · obtain ⟨σ2, e2, r2⟩ := m66 (X := X) (d := d) h hO hk hc m2
    refine ⟨σ2, ?_, r2⟩
    rw [if_neg (by omega), if_neg (by omega)] at hnx
    rw [s65]
    have hr := rBo_01 (rdS T c)
    simp only [s65_0, s65_1, s65_4, s65_5, s65_8, s65_9, s65_10, s65_13, am_pu_s, am_pu_n, va_rf_s, va_rf_n, Option.bind_some, true_or, or_true, eq_self, if_true, if_false, ite_self, ite_true, ite_false, ↓reduceIte, reduceCtorEq, Nat.reduceEqDiff, Nat.reduceAdd, Nat.reduceLT, Nat.reduceLeDiff, Nat.reduceMul, Nat.reduceSub, not_true_eq_false, not_false_eq_true, and_self, and_true, true_and, and_false, false_and, hF, kd3, hnx, e2, hr]
  by_cases m1 : T 1 0 = 1
  · rw [if_neg (by omega), if_pos m1] at hnx
    have hdg := hM.2.2.1 m1
    have e91 : (nI c = nI 91) = (c = 91) := nI_EQ (by omega) (by decide)
    unfold rdS
    rw [if_neg (by omega), if_pos m1, s65]
    by_cases c1 : c = 91
    · rw [if_pos c1]
      obtain ⟨σ2, e2, r2⟩ := m70 (X := X) (d := d + 2) (s := T 3 0) hC hO hk
      refine ⟨σ2, ?_, r2⟩
      simp only [s65_0, s65_1, s65_4, s65_5, s65_8, s65_9, s65_10, s65_13, s65_14, s65_15, s65_18, s65_19, s65_22, s65_23, s65_25, s65_28, s65_29, s65_30, s65_33, s65_36, s65_39, s65_40, s65_43, s65_44, am_pu_s, am_pu_n, va_rf_s, va_rf_n, Option.bind_some, true_or, or_true, eq_self, if_true, if_false, ite_self, ite_true, ite_false, ↓reduceIte, reduceCtorEq, Nat.reduceEqDiff, Nat.reduceAdd, Nat.reduceLT, Nat.reduceLeDiff, Nat.reduceMul, Nat.reduceSub, not_true_eq_false, not_false_eq_true, and_self, and_true, true_and, and_false, false_and, hF, kd3, hnx, n21, e91, c1, hdg, e2, nI_10, rBo]
    · rw [if_neg c1]
      refine ⟨σ, ?_, h, am_pr.rf hF, rfl⟩
      simp only [s65_0, s65_1, s65_4, s65_5, s65_8, s65_9, s65_10, s65_13, s65_14, s65_15, s65_18, s65_19, s65_22, s65_23, s65_25, s65_28, s65_29, s65_30, s65_33, s65_36, s65_39, s65_40, s65_43, s65_44, am_pu_s, am_pu_n, va_rf_s, va_rf_n, Option.bind_some, true_or, or_true, eq_self, if_true, if_false, ite_self, ite_true, ite_false, ↓reduceIte, reduceCtorEq, Nat.reduceEqDiff, Nat.reduceAdd, Nat.reduceLT, Nat.reduceLeDiff, Nat.reduceMul, Nat.reduceSub, not_true_eq_false, not_false_eq_true, and_self, and_true, true_and, and_false, false_and, hF, kd3, hnx, n21, e91, c1, rBo]
  have m0 : T 1 0 = 0 := by omega
  rw [if_pos m0] at hnx
  have E : ∀ x, x < 200 → (nI c = nI x) = (c = x) := fun x hx => nI_EQ (by omega) (by omega)
  unfold rdS
  rw [if_pos m0, s65]
  by_cases cn : 97 ≤ c ∧ c ≤ 103
  · rw [if_pos cn]
    have hb := (note_b hc).mpr cn
    have e1 : nI c - nI 97 = nI (c - 97) := pk_sub cn.1
    have e2 := b_pw (c - 97) (by omega)
    obtain ⟨σ2, e3, r2⟩ := m68 (X := X) (d := d + 1) (b := 2 ^ (c - 97)) hC hB (by omega) (c_pw _ (by omega))
    refine ⟨σ2, ?_, r2⟩
    simp only [s65_0, s65_1, s65_4, s65_5, s65_8, s65_9, s65_10, s65_13, s65_14, s65_15, s65_18, s65_19, s65_22, s65_23, s65_25, s65_28, s65_29, s65_30, s65_33, s65_36, s65_39, s65_40, s65_43, s65_44, s65_45, s65_46, s65_49, s65_52, s65_53, s65_54, s65_55, s65_57, s65_58, s65_59, s65_62, am_pu_s, am_pu_n, va_rf_s, va_rf_n, Option.bind_some, true_or, or_true, eq_self, if_true, if_false, ite_self, ite_true, ite_false, ↓reduceIte, reduceCtorEq, Nat.reduceEqDiff, Nat.reduceAdd, Nat.reduceLT, Nat.reduceLeDiff, Nat.reduceMul, Nat.reduceSub, not_true_eq_false, not_false_eq_true, and_self, and_true, true_and, and_false, false_and, hF, kd3, hnx, n01, n02, m120, bI_t hb, nI_10, e1, e2, e3, rBo]
  rw [if_neg cn]
  have hb : ¬ (nI 97 ≤ nI c ∧ nI c ≤ nI 103) := fun q => cn ((note_b hc).mp q)
  by_cases k46 : c = 46
  · rw [if_pos k46]
    obtain ⟨σ2, e3, r2⟩ := m68 (X := X) (d := d + 1) (b := 0) hC hB (by omega) (by decide)
    refine ⟨σ2, ?_, r2⟩
    subst k46
    simp only [s65_0, s65_1, s65_4, s65_5, s65_8, s65_9, s65_10, s65_13, s65_14, s65_15, s65_18, s65_19, s65_22, s65_23, s65_25, s65_28, s65_29, s65_30, s65_33, s65_36, s65_39, s65_40, s65_43, s65_44, s65_45, s65_46, s65_49, s65_52, s65_53, s65_54, s65_55, s65_57, s65_58, s65_59, s65_62, s65_63, s65_64, s65_148, s65_149, s65_150, s65_153, s65_154, s65_155, s65_156, s65_159, s65_160, s65_161, s65_162, s65_164, s65_165, s65_168, s65_169, s65_170, s65_173, s65_174, s65_175, s65_176, s65_179, s65_180, s65_181, s65_182, s65_185, s65_186, s65_187, s65_190, s65_191, s65_192, s65_195, s65_196, s65_197, s65_200, s65_203, s65_204, s65_207, s65_210, s65_211, s65_214, s65_215, s65_218, s65_219, s65_220, s65_221, s65_224, s65_225, s65_228, s65_231, s65_232, s65_235, s65_236, s65_237, s65_238, s65_241, s65_244, s65_245, s65_248, s65_251, s65_252, s65_255, s65_256, s65_259, s65_260, s65_261, s65_262, s65_265, s65_266, s65_269, s65_272, s65_273, s65_276, s65_277, s65_278, s65_279, am_pu_s, am_pu_n, va_rf_s, va_rf_n, Option.bind_some, true_or, or_true, eq_self, if_true, if_false, ite_self, ite_true, ite_false, ↓reduceIte, reduceCtorEq, Nat.reduceEqDiff, Nat.reduceAdd, Nat.reduceLT, Nat.reduceLeDiff, Nat.reduceMul, Nat.reduceSub, not_true_eq_false, not_false_eq_true, and_self, and_true, true_and, and_false, false_and, hF, kd3, hnx, n01, n02, m120, bI_f hb, nI_EQ, e3, rBo]
  rw [if_neg k46]
  by_cases k40 : c = 40
  · rw [if_pos k40]
    refine ⟨am_wI (am_wI (am_wI σ 3 5 (nI 1)) 3 6 (nI 0)) 3 9 (nI 0), ?_, ⟨⟨hF, ⟨?_, ?_, ?_, ?_, ?_⟩, fun j hj => ?_, fun j hj => ?_⟩, ?_, fun q => ?_, fun q => ?_, ?_⟩, (((am_pr.rf hF).w (by rfl)).w (by rfl)).w (by rfl), ?_⟩
    · subst k40
      simp only [s65_0, s65_1, s65_4, s65_5, s65_8, s65_9, s65_10, s65_13, s65_14, s65_15, s65_18, s65_19, s65_22, s65_23, s65_25, s65_28, s65_29, s65_30, s65_33, s65_36, s65_39, s65_40, s65_43, s65_44, s65_45, s65_46, s65_49, s65_52, s65_53, s65_54, s65_55, s65_57, s65_58, s65_59, s65_62, s65_63, s65_64, s65_148, s65_149, s65_150, s65_153, s65_154, s65_155, s65_156, s65_159, s65_160, s65_161, s65_162, s65_164, s65_165, s65_168, s65_169, s65_170, s65_173, s65_174, s65_175, s65_176, s65_179, s65_180, s65_181, s65_182, s65_185, s65_186, s65_187, s65_190, s65_191, s65_192, s65_195, s65_196, s65_197, s65_200, s65_203, s65_204, s65_207, s65_210, s65_211, s65_214, s65_215, s65_218, s65_219, s65_220, s65_221, s65_224, s65_225, s65_228, s65_231, s65_232, s65_235, s65_236, s65_237, s65_238, s65_241, s65_244, s65_245, s65_248, s65_251, s65_252, s65_255, s65_256, s65_259, s65_260, s65_261, s65_262, s65_265, s65_266, s65_269, s65_272, s65_273, s65_276, s65_277, s65_278, s65_279, am_pu_s, am_pu_n, va_rf_s, va_rf_n, Option.bind_some, true_or, or_true, eq_self, if_true, if_false, ite_self, ite_true, ite_false, ↓reduceIte, reduceCtorEq, Nat.reduceEqDiff, Nat.reduceAdd, Nat.reduceLT, Nat.reduceLeDiff, Nat.reduceMul, Nat.reduceSub, not_true_eq_false, not_false_eq_true, and_self, and_true, true_and, and_false, false_and, hF, kd3, hnx, n01, n02, m120, bI_f hb, nI_EQ, m67 hF, rBo]
    · simp only [am_I_wI, am_pu_s, am_pu_n, va_rf_s, va_rf_n, Option.bind_some, true_or, or_true, eq_self, if_true, if_false, ite_self, ite_true, ite_false, ↓reduceIte, reduceCtorEq, Nat.reduceEqDiff, Nat.reduceAdd, Nat.reduceLT, Nat.reduceLeDiff, Nat.reduceMul, Nat.reduceSub, not_true_eq_false, not_false_eq_true, and_self, and_true, true_and, and_false, false_and]; exact c0
    · simp only [am_I_wI, am_pu_s, am_pu_n, va_rf_s, va_rf_n, Option.bind_some, true_or, or_true, eq_self, if_true, if_false, ite_self, ite_true, ite_false, ↓reduceIte, reduceCtorEq, Nat.reduceEqDiff, Nat.reduceAdd, Nat.reduceLT, Nat.reduceLeDiff, Nat.reduceMul, Nat.reduceSub, not_true_eq_false, not_false_eq_true, and_self, and_true, true_and, and_false, false_and]; exact c4
    · simp only [am_I_wI, am_pu_s, am_pu_n, va_rf_s, va_rf_n, Option.bind_some, true_or, or_true, eq_self, if_true, if_false, ite_self, ite_true, ite_false, ↓reduceIte, reduceCtorEq, Nat.reduceEqDiff, Nat.reduceAdd, Nat.reduceLT, Nat.reduceLeDiff, Nat.reduceMul, Nat.reduceSub, not_true_eq_false, not_false_eq_true, and_self, and_true, true_and, and_false, false_and]; exact c6
    · simp only [am_I_wI, am_pu_s, am_pu_n, va_rf_s, va_rf_n, Option.bind_some, true_or, or_true, eq_self, if_true, if_false, ite_self, ite_true, ite_false, ↓reduceIte, reduceCtorEq, Nat.reduceEqDiff, Nat.reduceAdd, Nat.reduceLT, Nat.reduceLeDiff, Nat.reduceMul, Nat.reduceSub, not_true_eq_false, not_false_eq_true, and_self, and_true, true_and, and_false, false_and]; exact c7
    · simp only [am_I_wI, am_pu_s, am_pu_n, va_rf_s, va_rf_n, Option.bind_some, true_or, or_true, eq_self, if_true, if_false, ite_self, ite_true, ite_false, ↓reduceIte, reduceCtorEq, Nat.reduceEqDiff, Nat.reduceAdd, Nat.reduceLT, Nat.reduceLeDiff, Nat.reduceMul, Nat.reduceSub, not_true_eq_false, not_false_eq_true, and_self, and_true, true_and, and_false, false_and]; exact c8
    · simp only [am_I_wI, am_pu_s, am_pu_n, va_rf_s, va_rf_n, Option.bind_some, true_or, or_true, eq_self, if_true, if_false, ite_self, ite_true, ite_false, ↓reduceIte, reduceCtorEq, Nat.reduceEqDiff, Nat.reduceAdd, Nat.reduceLT, Nat.reduceLeDiff, Nat.reduceMul, Nat.reduceSub, not_true_eq_false, not_false_eq_true, and_self, and_true, true_and, and_false, false_and]; exact cb j hj
    · simp only [am_I_wI, am_pu_s, am_pu_n, va_rf_s, va_rf_n, Option.bind_some, true_or, or_true, eq_self, if_true, if_false, ite_self, ite_true, ite_false, ↓reduceIte, reduceCtorEq, Nat.reduceEqDiff, Nat.reduceAdd, Nat.reduceLT, Nat.reduceLeDiff, Nat.reduceMul, Nat.reduceSub, not_true_eq_false, not_false_eq_true, and_self, and_true, true_and, and_false, false_and]; exact cs j hj
    · simp only [am_I_wI, am_pu_s, am_pu_n, va_rf_s, va_rf_n, Option.bind_some, true_or, or_true, eq_self, if_true, if_false, ite_self, ite_true, ite_false, ↓reduceIte, reduceCtorEq, Nat.reduceEqDiff, Nat.reduceAdd, Nat.reduceLT, Nat.reduceLeDiff, Nat.reduceMul, Nat.reduceSub, not_true_eq_false, not_false_eq_true, and_self, and_true, true_and, and_false, false_and]; rfl
    · simp only [am_I_wI, am_pu_s, am_pu_n, va_rf_s, va_rf_n, Option.bind_some, true_or, or_true, eq_self, if_true, if_false, ite_self, ite_true, ite_false, ↓reduceIte, reduceCtorEq, Nat.reduceEqDiff, Nat.reduceAdd, Nat.reduceLT, Nat.reduceLeDiff, Nat.reduceMul, Nat.reduceSub, not_true_eq_false, not_false_eq_true, and_self, and_true, true_and, and_false, false_and]; rfl
    · exact absurd (show 2 = 1 from q) (by decide)
    · simp only [am_I_wI, am_pu_s, am_pu_n, va_rf_s, va_rf_n, Option.bind_some, true_or, or_true, eq_self, if_true, if_false, ite_self, ite_true, ite_false, ↓reduceIte, reduceCtorEq, Nat.reduceEqDiff, Nat.reduceAdd, Nat.reduceLT, Nat.reduceLeDiff, Nat.reduceMul, Nat.reduceSub, not_true_eq_false, not_false_eq_true, and_self, and_true, true_and, and_false, false_and]; rfl
    · simp only [am_I_wI, am_pu_s, am_pu_n, va_rf_s, va_rf_n, Option.bind_some, true_or, or_true, eq_self, if_true, if_false, ite_self, ite_true, ite_false, ↓reduceIte, reduceCtorEq, Nat.reduceEqDiff, Nat.reduceAdd, Nat.reduceLT, Nat.reduceLeDiff, Nat.reduceMul, Nat.reduceSub, not_true_eq_false, not_false_eq_true, and_self, and_true, true_and, and_false, false_and]
  rw [if_neg k40]
  by_cases k50 : 50 ≤ c ∧ c ≤ 52
  · rw [if_pos k50]
    have e1 : nI c - nI 48 = nI (c - 48) := pk_sub (by omega)
    have hF2 : am_F (am_wI σ 3 7 (nI (c - 48))) := hF
    refine ⟨am_wI (am_wI (am_wI (am_wI σ 3 7 (nI (c - 48))) 3 5 (nI 2)) 3 6 (nI 0)) 3 9 (nI 0), ?_, ⟨⟨hF, ⟨?_, ?_, ?_, ?_, ?_⟩, fun j hj => ?_, fun j hj => ?_⟩, ?_, fun q => ?_, fun q => ?_, ?_⟩, ((((am_pr.rf hF).w (by rfl)).w (by rfl)).w (by rfl)).w (by rfl), ?_⟩
    · have k3 : c = 50 ∨ c = 51 ∨ c = 52 := by omega
      rcases k3 with rfl | rfl | rfl <;> simp only [s65_0, s65_1, s65_4, s65_5, s65_8, s65_9, s65_10, s65_13, s65_14, s65_15, s65_18, s65_19, s65_22, s65_23, s65_25, s65_28, s65_29, s65_30, s65_33, s65_36, s65_39, s65_40, s65_43, s65_44, s65_45, s65_46, s65_49, s65_52, s65_53, s65_54, s65_55, s65_57, s65_58, s65_59, s65_62, s65_63, s65_64, s65_148, s65_149, s65_150, s65_153, s65_154, s65_155, s65_156, s65_159, s65_160, s65_161, s65_162, s65_164, s65_165, s65_168, s65_169, s65_170, s65_173, s65_174, s65_175, s65_176, s65_179, s65_180, s65_181, s65_182, s65_185, s65_186, s65_187, s65_190, s65_191, s65_192, s65_195, s65_196, s65_197, s65_200, s65_203, s65_204, s65_207, s65_210, s65_211, s65_214, s65_215, s65_218, s65_219, s65_220, s65_221, s65_224, s65_225, s65_228, s65_231, s65_232, s65_235, s65_236, s65_237, s65_238, s65_241, s65_244, s65_245, s65_248, s65_251, s65_252, s65_255, s65_256, s65_259, s65_260, s65_261, s65_262, s65_265, s65_266, s65_269, s65_272, s65_273, s65_276, s65_277, s65_278, s65_279, am_pu_s, am_pu_n, va_rf_s, va_rf_n, Option.bind_some, true_or, or_true, eq_self, if_true, if_false, ite_self, ite_true, ite_false, ↓reduceIte, reduceCtorEq, Nat.reduceEqDiff, Nat.reduceAdd, Nat.reduceLT, Nat.reduceLeDiff, Nat.reduceMul, Nat.reduceSub, not_true_eq_false, not_false_eq_true, and_self, and_true, true_and, and_false, false_and, hF, kd3, hnx, n01, n02, m120, bI_f hb, nI_EQ, e1, m67 hF2, hF2, rBo]
    · simp only [am_I_wI, am_pu_s, am_pu_n, va_rf_s, va_rf_n, Option.bind_some, true_or, or_true, eq_self, if_true, if_false, ite_self, ite_true, ite_false, ↓reduceIte, reduceCtorEq, Nat.reduceEqDiff, Nat.reduceAdd, Nat.reduceLT, Nat.reduceLeDiff, Nat.reduceMul, Nat.reduceSub, not_true_eq_false, not_false_eq_true, and_self, and_true, true_and, and_false, false_and]; exact c0
    · simp only [am_I_wI, am_pu_s, am_pu_n, va_rf_s, va_rf_n, Option.bind_some, true_or, or_true, eq_self, if_true, if_false, ite_self, ite_true, ite_false, ↓reduceIte, reduceCtorEq, Nat.reduceEqDiff, Nat.reduceAdd, Nat.reduceLT, Nat.reduceLeDiff, Nat.reduceMul, Nat.reduceSub, not_true_eq_false, not_false_eq_true, and_self, and_true, true_and, and_false, false_and]; exact c4
    · simp only [am_I_wI, am_pu_s, am_pu_n, va_rf_s, va_rf_n, Option.bind_some, true_or, or_true, eq_self, if_true, if_false, ite_self, ite_true, ite_false, ↓reduceIte, reduceCtorEq, Nat.reduceEqDiff, Nat.reduceAdd, Nat.reduceLT, Nat.reduceLeDiff, Nat.reduceMul, Nat.reduceSub, not_true_eq_false, not_false_eq_true, and_self, and_true, true_and, and_false, false_and]; exact c6
    · simp only [am_I_wI, am_pu_s, am_pu_n, va_rf_s, va_rf_n, Option.bind_some, true_or, or_true, eq_self, if_true, if_false, ite_self, ite_true, ite_false, ↓reduceIte, reduceCtorEq, Nat.reduceEqDiff, Nat.reduceAdd, Nat.reduceLT, Nat.reduceLeDiff, Nat.reduceMul, Nat.reduceSub, not_true_eq_false, not_false_eq_true, and_self, and_true, true_and, and_false, false_and]; exact c7
    · simp only [am_I_wI, am_pu_s, am_pu_n, va_rf_s, va_rf_n, Option.bind_some, true_or, or_true, eq_self, if_true, if_false, ite_self, ite_true, ite_false, ↓reduceIte, reduceCtorEq, Nat.reduceEqDiff, Nat.reduceAdd, Nat.reduceLT, Nat.reduceLeDiff, Nat.reduceMul, Nat.reduceSub, not_true_eq_false, not_false_eq_true, and_self, and_true, true_and, and_false, false_and]; exact c8
    · simp only [am_I_wI, am_pu_s, am_pu_n, va_rf_s, va_rf_n, Option.bind_some, true_or, or_true, eq_self, if_true, if_false, ite_self, ite_true, ite_false, ↓reduceIte, reduceCtorEq, Nat.reduceEqDiff, Nat.reduceAdd, Nat.reduceLT, Nat.reduceLeDiff, Nat.reduceMul, Nat.reduceSub, not_true_eq_false, not_false_eq_true, and_self, and_true, true_and, and_false, false_and]; exact cb j hj
    · simp only [am_I_wI, am_pu_s, am_pu_n, va_rf_s, va_rf_n, Option.bind_some, true_or, or_true, eq_self, if_true, if_false, ite_self, ite_true, ite_false, ↓reduceIte, reduceCtorEq, Nat.reduceEqDiff, Nat.reduceAdd, Nat.reduceLT, Nat.reduceLeDiff, Nat.reduceMul, Nat.reduceSub, not_true_eq_false, not_false_eq_true, and_self, and_true, true_and, and_false, false_and]; exact cs j hj
    · simp only [am_I_wI, am_pu_s, am_pu_n, va_rf_s, va_rf_n, Option.bind_some, true_or, or_true, eq_self, if_true, if_false, ite_self, ite_true, ite_false, ↓reduceIte, reduceCtorEq, Nat.reduceEqDiff, Nat.reduceAdd, Nat.reduceLT, Nat.reduceLeDiff, Nat.reduceMul, Nat.reduceSub, not_true_eq_false, not_false_eq_true, and_self, and_true, true_and, and_false, false_and]; rfl
    · exact absurd (show 2 ≤ 1 from q) (by decide)
    · simp only [am_I_wI, am_pu_s, am_pu_n, va_rf_s, va_rf_n, Option.bind_some, true_or, or_true, eq_self, if_true, if_false, ite_self, ite_true, ite_false, ↓reduceIte, reduceCtorEq, Nat.reduceEqDiff, Nat.reduceAdd, Nat.reduceLT, Nat.reduceLeDiff, Nat.reduceMul, Nat.reduceSub, not_true_eq_false, not_false_eq_true, and_self, and_true, true_and, and_false, false_and]; rfl
    · simp only [am_I_wI, am_pu_s, am_pu_n, va_rf_s, va_rf_n, Option.bind_some, true_or, or_true, eq_self, if_true, if_false, ite_self, ite_true, ite_false, ↓reduceIte, reduceCtorEq, Nat.reduceEqDiff, Nat.reduceAdd, Nat.reduceLT, Nat.reduceLeDiff, Nat.reduceMul, Nat.reduceSub, not_true_eq_false, not_false_eq_true, and_self, and_true, true_and, and_false, false_and]; rfl
    · simp only [am_I_wI, am_pu_s, am_pu_n, va_rf_s, va_rf_n, Option.bind_some, true_or, or_true, eq_self, if_true, if_false, ite_self, ite_true, ite_false, ↓reduceIte, reduceCtorEq, Nat.reduceEqDiff, Nat.reduceAdd, Nat.reduceLT, Nat.reduceLeDiff, Nat.reduceMul, Nat.reduceSub, not_true_eq_false, not_false_eq_true, and_self, and_true, true_and, and_false, false_and]
  rw [if_neg k50]
  have k50' : ¬ c = 50 ∧ ¬ c = 51 ∧ ¬ c = 52 := by omega
  by_cases k60 : c = 60
  · rw [if_pos k60]
    obtain ⟨σ2, e3, r2⟩ := m70 (X := X) (d := d + 2) (s := 0) hC hO hk
    refine ⟨σ2, ?_, r2⟩
    subst k60
    simp only [s65_0, s65_1, s65_4, s65_5, s65_8, s65_9, s65_10, s65_13, s65_14, s65_15, s65_18, s65_19, s65_22, s65_23, s65_25, s65_28, s65_29, s65_30, s65_33, s65_36, s65_39, s65_40, s65_43, s65_44, s65_45, s65_46, s65_49, s65_52, s65_53, s65_54, s65_55, s65_57, s65_58, s65_59, s65_62, s65_63, s65_64, s65_148, s65_149, s65_150, s65_153, s65_154, s65_155, s65_156, s65_159, s65_160, s65_161, s65_162, s65_164, s65_165, s65_168, s65_169, s65_170, s65_173, s65_174, s65_175, s65_176, s65_179, s65_180, s65_181, s65_182, s65_185, s65_186, s65_187, s65_190, s65_191, s65_192, s65_195, s65_196, s65_197, s65_200, s65_203, s65_204, s65_207, s65_210, s65_211, s65_214, s65_215, s65_218, s65_219, s65_220, s65_221, s65_224, s65_225, s65_228, s65_231, s65_232, s65_235, s65_236, s65_237, s65_238, s65_241, s65_244, s65_245, s65_248, s65_251, s65_252, s65_255, s65_256, s65_259, s65_260, s65_261, s65_262, s65_265, s65_266, s65_269, s65_272, s65_273, s65_276, s65_277, s65_278, s65_279, am_pu_s, am_pu_n, va_rf_s, va_rf_n, Option.bind_some, true_or, or_true, eq_self, if_true, if_false, ite_self, ite_true, ite_false, ↓reduceIte, reduceCtorEq, Nat.reduceEqDiff, Nat.reduceAdd, Nat.reduceLT, Nat.reduceLeDiff, Nat.reduceMul, Nat.reduceSub, not_true_eq_false, not_false_eq_true, and_self, and_true, true_and, and_false, false_and, hF, kd3, hnx, n01, n02, m120, bI_f hb, nI_EQ, e3, rBo]
  rw [if_neg k60]
  by_cases k94 : c = 94
  · rw [if_pos k94]
    have hF2 : am_F (am_wI σ 3 8 (nI (T 4 0 + 1))) := hF
    refine ⟨am_wI (am_wI (am_wI (am_wI σ 3 8 (nI (T 4 0 + 1))) 3 5 (nI 0)) 3 6 (nI 0)) 3 9 (nI 0), ?_, ⟨⟨hF, ⟨?_, ?_, ?_, ?_, ?_⟩, fun j hj => ?_, fun j hj => ?_⟩, ?_, fun q => ?_, fun q => ?_, ?_⟩, ((((am_pr.rf hF).w (by rfl)).w (by rfl)).w (by rfl)).w (by rfl), ?_⟩
    · subst k94
      simp only [s65_0, s65_1, s65_4, s65_5, s65_8, s65_9, s65_10, s65_13, s65_14, s65_15, s65_18, s65_19, s65_22, s65_23, s65_25, s65_28, s65_29, s65_30, s65_33, s65_36, s65_39, s65_40, s65_43, s65_44, s65_45, s65_46, s65_49, s65_52, s65_53, s65_54, s65_55, s65_57, s65_58, s65_59, s65_62, s65_63, s65_64, s65_148, s65_149, s65_150, s65_153, s65_154, s65_155, s65_156, s65_159, s65_160, s65_161, s65_162, s65_164, s65_165, s65_168, s65_169, s65_170, s65_173, s65_174, s65_175, s65_176, s65_179, s65_180, s65_181, s65_182, s65_185, s65_186, s65_187, s65_190, s65_191, s65_192, s65_195, s65_196, s65_197, s65_200, s65_203, s65_204, s65_207, s65_210, s65_211, s65_214, s65_215, s65_218, s65_219, s65_220, s65_221, s65_224, s65_225, s65_228, s65_231, s65_232, s65_235, s65_236, s65_237, s65_238, s65_241, s65_244, s65_245, s65_248, s65_251, s65_252, s65_255, s65_256, s65_259, s65_260, s65_261, s65_262, s65_265, s65_266, s65_269, s65_272, s65_273, s65_276, s65_277, s65_278, s65_279, am_pu_s, am_pu_n, va_rf_s, va_rf_n, Option.bind_some, true_or, or_true, eq_self, if_true, if_false, ite_self, ite_true, ite_false, ↓reduceIte, reduceCtorEq, Nat.reduceEqDiff, Nat.reduceAdd, Nat.reduceLT, Nat.reduceLeDiff, Nat.reduceMul, Nat.reduceSub, not_true_eq_false, not_false_eq_true, and_self, and_true, true_and, and_false, false_and, hF, kd3, hnx, n01, n02, m120, bI_f hb, nI_EQ, c4, nI_add, m67 hF2, hF2, rBo]
    · simp only [am_I_wI, am_pu_s, am_pu_n, va_rf_s, va_rf_n, Option.bind_some, true_or, or_true, eq_self, if_true, if_false, ite_self, ite_true, ite_false, ↓reduceIte, reduceCtorEq, Nat.reduceEqDiff, Nat.reduceAdd, Nat.reduceLT, Nat.reduceLeDiff, Nat.reduceMul, Nat.reduceSub, not_true_eq_false, not_false_eq_true, and_self, and_true, true_and, and_false, false_and]; exact c0
    · simp only [am_I_wI, am_pu_s, am_pu_n, va_rf_s, va_rf_n, Option.bind_some, true_or, or_true, eq_self, if_true, if_false, ite_self, ite_true, ite_false, ↓reduceIte, reduceCtorEq, Nat.reduceEqDiff, Nat.reduceAdd, Nat.reduceLT, Nat.reduceLeDiff, Nat.reduceMul, Nat.reduceSub, not_true_eq_false, not_false_eq_true, and_self, and_true, true_and, and_false, false_and]; rfl
    · simp only [am_I_wI, am_pu_s, am_pu_n, va_rf_s, va_rf_n, Option.bind_some, true_or, or_true, eq_self, if_true, if_false, ite_self, ite_true, ite_false, ↓reduceIte, reduceCtorEq, Nat.reduceEqDiff, Nat.reduceAdd, Nat.reduceLT, Nat.reduceLeDiff, Nat.reduceMul, Nat.reduceSub, not_true_eq_false, not_false_eq_true, and_self, and_true, true_and, and_false, false_and]; exact c6
    · simp only [am_I_wI, am_pu_s, am_pu_n, va_rf_s, va_rf_n, Option.bind_some, true_or, or_true, eq_self, if_true, if_false, ite_self, ite_true, ite_false, ↓reduceIte, reduceCtorEq, Nat.reduceEqDiff, Nat.reduceAdd, Nat.reduceLT, Nat.reduceLeDiff, Nat.reduceMul, Nat.reduceSub, not_true_eq_false, not_false_eq_true, and_self, and_true, true_and, and_false, false_and]; exact c7
    · simp only [am_I_wI, am_pu_s, am_pu_n, va_rf_s, va_rf_n, Option.bind_some, true_or, or_true, eq_self, if_true, if_false, ite_self, ite_true, ite_false, ↓reduceIte, reduceCtorEq, Nat.reduceEqDiff, Nat.reduceAdd, Nat.reduceLT, Nat.reduceLeDiff, Nat.reduceMul, Nat.reduceSub, not_true_eq_false, not_false_eq_true, and_self, and_true, true_and, and_false, false_and]; exact c8
    · simp only [am_I_wI, am_pu_s, am_pu_n, va_rf_s, va_rf_n, Option.bind_some, true_or, or_true, eq_self, if_true, if_false, ite_self, ite_true, ite_false, ↓reduceIte, reduceCtorEq, Nat.reduceEqDiff, Nat.reduceAdd, Nat.reduceLT, Nat.reduceLeDiff, Nat.reduceMul, Nat.reduceSub, not_true_eq_false, not_false_eq_true, and_self, and_true, true_and, and_false, false_and]; exact cb j hj
    · simp only [am_I_wI, am_pu_s, am_pu_n, va_rf_s, va_rf_n, Option.bind_some, true_or, or_true, eq_self, if_true, if_false, ite_self, ite_true, ite_false, ↓reduceIte, reduceCtorEq, Nat.reduceEqDiff, Nat.reduceAdd, Nat.reduceLT, Nat.reduceLeDiff, Nat.reduceMul, Nat.reduceSub, not_true_eq_false, not_false_eq_true, and_self, and_true, true_and, and_false, false_and]; exact cs j hj
    · show _ = nI (if T 1 0 = 0 then 0 else if T 1 0 = 1 then 2 else 1)
      rw [if_pos m0]
      simp only [am_I_wI, am_pu_s, am_pu_n, va_rf_s, va_rf_n, Option.bind_some, true_or, or_true, eq_self, if_true, if_false, ite_self, ite_true, ite_false, ↓reduceIte, reduceCtorEq, Nat.reduceEqDiff, Nat.reduceAdd, Nat.reduceLT, Nat.reduceLeDiff, Nat.reduceMul, Nat.reduceSub, not_true_eq_false, not_false_eq_true, and_self, and_true, true_and, and_false, false_and]
    · exact absurd (show 2 ≤ T 1 0 from q) m2
    · exact absurd (show T 1 0 = 1 from q) m1
    · simp only [am_I_wI, am_pu_s, am_pu_n, va_rf_s, va_rf_n, Option.bind_some, true_or, or_true, eq_self, if_true, if_false, ite_self, ite_true, ite_false, ↓reduceIte, reduceCtorEq, Nat.reduceEqDiff, Nat.reduceAdd, Nat.reduceLT, Nat.reduceLeDiff, Nat.reduceMul, Nat.reduceSub, not_true_eq_false, not_false_eq_true, and_self, and_true, true_and, and_false, false_and]; rfl
    · simp only [am_I_wI, am_pu_s, am_pu_n, va_rf_s, va_rf_n, Option.bind_some, true_or, or_true, eq_self, if_true, if_false, ite_self, ite_true, ite_false, ↓reduceIte, reduceCtorEq, Nat.reduceEqDiff, Nat.reduceAdd, Nat.reduceLT, Nat.reduceLeDiff, Nat.reduceMul, Nat.reduceSub, not_true_eq_false, not_false_eq_true, and_self, and_true, true_and, and_false, false_and]
  rw [if_neg k94]
  have hme := hM.2.2.2
  have e5 : (nI (T 5 0) = nI 0) = (T 5 0 = 0) := nI_EQ (by omega) (by decide)
  by_cases k93 : c = 93
  · rw [if_pos k93]
    subst k93
    by_cases g5 : T 5 0 = 0
    · rw [if_neg (fun q => by omega)]
      refine ⟨σ, ?_, h, am_pr.rf hF, rfl⟩
      simp only [s65_0, s65_1, s65_4, s65_5, s65_8, s65_9, s65_10, s65_13, s65_14, s65_15, s65_18, s65_19, s65_22, s65_23, s65_25, s65_28, s65_29, s65_30, s65_33, s65_36, s65_39, s65_40, s65_43, s65_44, s65_45, s65_46, s65_49, s65_52, s65_53, s65_54, s65_55, s65_57, s65_58, s65_59, s65_62, s65_63, s65_64, s65_148, s65_149, s65_150, s65_153, s65_154, s65_155, s65_156, s65_159, s65_160, s65_161, s65_162, s65_164, s65_165, s65_168, s65_169, s65_170, s65_173, s65_174, s65_175, s65_176, s65_179, s65_180, s65_181, s65_182, s65_185, s65_186, s65_187, s65_190, s65_191, s65_192, s65_195, s65_196, s65_197, s65_200, s65_203, s65_204, s65_207, s65_210, s65_211, s65_214, s65_215, s65_218, s65_219, s65_220, s65_221, s65_224, s65_225, s65_228, s65_231, s65_232, s65_235, s65_236, s65_237, s65_238, s65_241, s65_244, s65_245, s65_248, s65_251, s65_252, s65_255, s65_256, s65_259, s65_260, s65_261, s65_262, s65_265, s65_266, s65_269, s65_272, s65_273, s65_276, s65_277, s65_278, s65_279, am_pu_s, am_pu_n, va_rf_s, va_rf_n, Option.bind_some, true_or, or_true, eq_self, if_true, if_false, ite_self, ite_true, ite_false, ↓reduceIte, reduceCtorEq, Nat.reduceEqDiff, Nat.reduceAdd, Nat.reduceLT, Nat.reduceLeDiff, Nat.reduceMul, Nat.reduceSub, not_true_eq_false, not_false_eq_true, and_self, and_true, true_and, and_false, false_and, hF, kd3, hnx, n01, n02, m120, bI_f hb, nI_EQ, hme, e5, g5, rBo]
    by_cases g0 : T 0 0 = 0
    · rw [if_neg (fun q => by omega)]
      refine ⟨σ, ?_, h, am_pr.rf hF, rfl⟩
      have t0 : nI (T 0 0) ≤ nI 0 := nI_le (by omega) (by decide)
      simp only [s65_0, s65_1, s65_4, s65_5, s65_8, s65_9, s65_10, s65_13, s65_14, s65_15, s65_18, s65_19, s65_22, s65_23, s65_25, s65_28, s65_29, s65_30, s65_33, s65_36, s65_39, s65_40, s65_43, s65_44, s65_45, s65_46, s65_49, s65_52, s65_53, s65_54, s65_55, s65_57, s65_58, s65_59, s65_62, s65_63, s65_64, s65_148, s65_149, s65_150, s65_153, s65_154, s65_155, s65_156, s65_159, s65_160, s65_161, s65_162, s65_164, s65_165, s65_168, s65_169, s65_170, s65_173, s65_174, s65_175, s65_176, s65_179, s65_180, s65_181, s65_182, s65_185, s65_186, s65_187, s65_190, s65_191, s65_192, s65_195, s65_196, s65_197, s65_200, s65_203, s65_204, s65_207, s65_210, s65_211, s65_214, s65_215, s65_218, s65_219, s65_220, s65_221, s65_224, s65_225, s65_228, s65_231, s65_232, s65_235, s65_236, s65_237, s65_238, s65_241, s65_244, s65_245, s65_248, s65_251, s65_252, s65_255, s65_256, s65_259, s65_260, s65_261, s65_262, s65_265, s65_266, s65_269, s65_272, s65_273, s65_276, s65_277, s65_278, s65_279, am_pu_s, am_pu_n, va_rf_s, va_rf_n, Option.bind_some, true_or, or_true, eq_self, if_true, if_false, ite_self, ite_true, ite_false, ↓reduceIte, reduceCtorEq, Nat.reduceEqDiff, Nat.reduceAdd, Nat.reduceLT, Nat.reduceLeDiff, Nat.reduceMul, Nat.reduceSub, not_true_eq_false, not_false_eq_true, and_self, and_true, true_and, and_false, false_and, hF, kd3, hnx, n01, n02, m120, bI_f hb, nI_EQ, hme, e5, g5, c0, t0, rBo]
    have t0 : ¬ nI (T 0 0) ≤ nI 0 := nI_ge (by omega) (by omega)
    have t1 : nI (T 0 0) - nI 1 = nI (T 0 0 - 1) := pk_sub (by omega)
    have s6 := (cs (T 0 0 - 1) (by omega)).2.1
    have q6 := hs (T 0 0 - 1) (by omega)
    have e6 : (nI (T 11 (T 0 0 - 1)) = nI 0) = (T 11 (T 0 0 - 1) = 0) := nI_EQ (by omega) (by decide)
    by_cases g6 : T 11 (T 0 0 - 1) = 0
    · rw [if_neg (fun q => q.2.2 g6)]
      refine ⟨σ, ?_, h, am_pr.rf hF, rfl⟩
      simp only [s65_0, s65_1, s65_4, s65_5, s65_8, s65_9, s65_10, s65_13, s65_14, s65_15, s65_18, s65_19, s65_22, s65_23, s65_25, s65_28, s65_29, s65_30, s65_33, s65_36, s65_39, s65_40, s65_43, s65_44, s65_45, s65_46, s65_49, s65_52, s65_53, s65_54, s65_55, s65_57, s65_58, s65_59, s65_62, s65_63, s65_64, s65_148, s65_149, s65_150, s65_153, s65_154, s65_155, s65_156, s65_159, s65_160, s65_161, s65_162, s65_164, s65_165, s65_168, s65_169, s65_170, s65_173, s65_174, s65_175, s65_176, s65_179, s65_180, s65_181, s65_182, s65_185, s65_186, s65_187, s65_190, s65_191, s65_192, s65_195, s65_196, s65_197, s65_200, s65_203, s65_204, s65_207, s65_210, s65_211, s65_214, s65_215, s65_218, s65_219, s65_220, s65_221, s65_224, s65_225, s65_228, s65_231, s65_232, s65_235, s65_236, s65_237, s65_238, s65_241, s65_244, s65_245, s65_248, s65_251, s65_252, s65_255, s65_256, s65_259, s65_260, s65_261, s65_262, s65_265, s65_266, s65_269, s65_272, s65_273, s65_276, s65_277, s65_278, s65_279, am_pu_s, am_pu_n, va_rf_s, va_rf_n, Option.bind_some, true_or, or_true, eq_self, if_true, if_false, ite_self, ite_true, ite_false, ↓reduceIte, reduceCtorEq, Nat.reduceEqDiff, Nat.reduceAdd, Nat.reduceLT, Nat.reduceLeDiff, Nat.reduceMul, Nat.reduceSub, not_true_eq_false, not_false_eq_true, and_self, and_true, true_and, and_false, false_and, hF, kd3, rr3_2, hnx, n01, n02, m120, bI_f hb, nI_EQ, hme, e5, g5, c0, t0, t1, ix6 hF (show T 0 0 - 1 < 40 by omega), nI_cl (show T 0 0 - 1 < 2147483648 by omega), s6, e6, g6, rBo]
    · rw [if_pos ⟨by omega, by omega, g6⟩]
      obtain ⟨σ2, e3, r2⟩ := m71 (X := X) (d := d + 1) hC hO hk (by omega) (by omega)
      refine ⟨σ2, ?_, r2⟩
      simp only [s65_0, s65_1, s65_4, s65_5, s65_8, s65_9, s65_10, s65_13, s65_14, s65_15, s65_18, s65_19, s65_22, s65_23, s65_25, s65_28, s65_29, s65_30, s65_33, s65_36, s65_39, s65_40, s65_43, s65_44, s65_45, s65_46, s65_49, s65_52, s65_53, s65_54, s65_55, s65_57, s65_58, s65_59, s65_62, s65_63, s65_64, s65_148, s65_149, s65_150, s65_153, s65_154, s65_155, s65_156, s65_159, s65_160, s65_161, s65_162, s65_164, s65_165, s65_168, s65_169, s65_170, s65_173, s65_174, s65_175, s65_176, s65_179, s65_180, s65_181, s65_182, s65_185, s65_186, s65_187, s65_190, s65_191, s65_192, s65_195, s65_196, s65_197, s65_200, s65_203, s65_204, s65_207, s65_210, s65_211, s65_214, s65_215, s65_218, s65_219, s65_220, s65_221, s65_224, s65_225, s65_228, s65_231, s65_232, s65_235, s65_236, s65_237, s65_238, s65_241, s65_244, s65_245, s65_248, s65_251, s65_252, s65_255, s65_256, s65_259, s65_260, s65_261, s65_262, s65_265, s65_266, s65_269, s65_272, s65_273, s65_276, s65_277, s65_278, s65_279, am_pu_s, am_pu_n, va_rf_s, va_rf_n, Option.bind_some, true_or, or_true, eq_self, if_true, if_false, ite_self, ite_true, ite_false, ↓reduceIte, reduceCtorEq, Nat.reduceEqDiff, Nat.reduceAdd, Nat.reduceLT, Nat.reduceLeDiff, Nat.reduceMul, Nat.reduceSub, not_true_eq_false, not_false_eq_true, and_self, and_true, true_and, and_false, false_and, hF, kd3, rr3_2, hnx, n01, n02, m120, bI_f hb, nI_EQ, hme, e5, g5, c0, t0, t1, ix6 hF (show T 0 0 - 1 < 40 by omega), nI_cl (show T 0 0 - 1 < 2147483648 by omega), s6, e6, g6, e3, rBo]
  rw [if_neg k93]
  by_cases k62 : c = 62
  · rw [if_pos k62]
    subst k62
    by_cases g5 : T 5 0 = 0
    · rw [if_neg (fun q => by omega)]
      refine ⟨σ, ?_, h, am_pr.rf hF, rfl⟩
      simp only [s65_0, s65_1, s65_4, s65_5, s65_8, s65_9, s65_10, s65_13, s65_14, s65_15, s65_18, s65_19, s65_22, s65_23, s65_25, s65_28, s65_29, s65_30, s65_33, s65_36, s65_39, s65_40, s65_43, s65_44, s65_45, s65_46, s65_49, s65_52, s65_53, s65_54, s65_55, s65_57, s65_58, s65_59, s65_62, s65_63, s65_64, s65_148, s65_149, s65_150, s65_153, s65_154, s65_155, s65_156, s65_159, s65_160, s65_161, s65_162, s65_164, s65_165, s65_168, s65_169, s65_170, s65_173, s65_174, s65_175, s65_176, s65_179, s65_180, s65_181, s65_182, s65_185, s65_186, s65_187, s65_190, s65_191, s65_192, s65_195, s65_196, s65_197, s65_200, s65_203, s65_204, s65_207, s65_210, s65_211, s65_214, s65_215, s65_218, s65_219, s65_220, s65_221, s65_224, s65_225, s65_228, s65_231, s65_232, s65_235, s65_236, s65_237, s65_238, s65_241, s65_244, s65_245, s65_248, s65_251, s65_252, s65_255, s65_256, s65_259, s65_260, s65_261, s65_262, s65_265, s65_266, s65_269, s65_272, s65_273, s65_276, s65_277, s65_278, s65_279, am_pu_s, am_pu_n, va_rf_s, va_rf_n, Option.bind_some, true_or, or_true, eq_self, if_true, if_false, ite_self, ite_true, ite_false, ↓reduceIte, reduceCtorEq, Nat.reduceEqDiff, Nat.reduceAdd, Nat.reduceLT, Nat.reduceLeDiff, Nat.reduceMul, Nat.reduceSub, not_true_eq_false, not_false_eq_true, and_self, and_true, true_and, and_false, false_and, hF, kd3, hnx, n01, n02, m120, bI_f hb, nI_EQ, hme, e5, g5, rBo]
    by_cases g0 : T 0 0 = 0
    · rw [if_neg (fun q => by omega)]
      refine ⟨σ, ?_, h, am_pr.rf hF, rfl⟩
      have t0 : nI (T 0 0) ≤ nI 0 := nI_le (by omega) (by decide)
      simp only [s65_0, s65_1, s65_4, s65_5, s65_8, s65_9, s65_10, s65_13, s65_14, s65_15, s65_18, s65_19, s65_22, s65_23, s65_25, s65_28, s65_29, s65_30, s65_33, s65_36, s65_39, s65_40, s65_43, s65_44, s65_45, s65_46, s65_49, s65_52, s65_53, s65_54, s65_55, s65_57, s65_58, s65_59, s65_62, s65_63, s65_64, s65_148, s65_149, s65_150, s65_153, s65_154, s65_155, s65_156, s65_159, s65_160, s65_161, s65_162, s65_164, s65_165, s65_168, s65_169, s65_170, s65_173, s65_174, s65_175, s65_176, s65_179, s65_180, s65_181, s65_182, s65_185, s65_186, s65_187, s65_190, s65_191, s65_192, s65_195, s65_196, s65_197, s65_200, s65_203, s65_204, s65_207, s65_210, s65_211, s65_214, s65_215, s65_218, s65_219, s65_220, s65_221, s65_224, s65_225, s65_228, s65_231, s65_232, s65_235, s65_236, s65_237, s65_238, s65_241, s65_244, s65_245, s65_248, s65_251, s65_252, s65_255, s65_256, s65_259, s65_260, s65_261, s65_262, s65_265, s65_266, s65_269, s65_272, s65_273, s65_276, s65_277, s65_278, s65_279, am_pu_s, am_pu_n, va_rf_s, va_rf_n, Option.bind_some, true_or, or_true, eq_self, if_true, if_false, ite_self, ite_true, ite_false, ↓reduceIte, reduceCtorEq, Nat.reduceEqDiff, Nat.reduceAdd, Nat.reduceLT, Nat.reduceLeDiff, Nat.reduceMul, Nat.reduceSub, not_true_eq_false, not_false_eq_true, and_self, and_true, true_and, and_false, false_and, hF, kd3, hnx, n01, n02, m120, bI_f hb, nI_EQ, hme, e5, g5, c0, t0, rBo]
    have t0 : ¬ nI (T 0 0) ≤ nI 0 := nI_ge (by omega) (by omega)
    have t1 : nI (T 0 0) - nI 1 = nI (T 0 0 - 1) := pk_sub (by omega)
    have s6 := (cs (T 0 0 - 1) (by omega)).2.1
    have q6 := hs (T 0 0 - 1) (by omega)
    have e6 : (nI (T 11 (T 0 0 - 1)) = nI 0) = (T 11 (T 0 0 - 1) = 0) := nI_EQ (by omega) (by decide)
    by_cases g6 : T 11 (T 0 0 - 1) = 0
    · rw [if_pos ⟨by omega, by omega, g6⟩]
      obtain ⟨σ2, e3, r2⟩ := m71 (X := X) (d := d + 1) hC hO hk (by omega) (by omega)
      refine ⟨σ2, ?_, r2⟩
      simp only [s65_0, s65_1, s65_4, s65_5, s65_8, s65_9, s65_10, s65_13, s65_14, s65_15, s65_18, s65_19, s65_22, s65_23, s65_25, s65_28, s65_29, s65_30, s65_33, s65_36, s65_39, s65_40, s65_43, s65_44, s65_45, s65_46, s65_49, s65_52, s65_53, s65_54, s65_55, s65_57, s65_58, s65_59, s65_62, s65_63, s65_64, s65_148, s65_149, s65_150, s65_153, s65_154, s65_155, s65_156, s65_159, s65_160, s65_161, s65_162, s65_164, s65_165, s65_168, s65_169, s65_170, s65_173, s65_174, s65_175, s65_176, s65_179, s65_180, s65_181, s65_182, s65_185, s65_186, s65_187, s65_190, s65_191, s65_192, s65_195, s65_196, s65_197, s65_200, s65_203, s65_204, s65_207, s65_210, s65_211, s65_214, s65_215, s65_218, s65_219, s65_220, s65_221, s65_224, s65_225, s65_228, s65_231, s65_232, s65_235, s65_236, s65_237, s65_238, s65_241, s65_244, s65_245, s65_248, s65_251, s65_252, s65_255, s65_256, s65_259, s65_260, s65_261, s65_262, s65_265, s65_266, s65_269, s65_272, s65_273, s65_276, s65_277, s65_278, s65_279, am_pu_s, am_pu_n, va_rf_s, va_rf_n, Option.bind_some, true_or, or_true, eq_self, if_true, if_false, ite_self, ite_true, ite_false, ↓reduceIte, reduceCtorEq, Nat.reduceEqDiff, Nat.reduceAdd, Nat.reduceLT, Nat.reduceLeDiff, Nat.reduceMul, Nat.reduceSub, not_true_eq_false, not_false_eq_true, and_self, and_true, true_and, and_false, false_and, hF, kd3, rr3_2, hnx, n01, n02, m120, bI_f hb, nI_EQ, hme, e5, g5, c0, t0, t1, ix6 hF (show T 0 0 - 1 < 40 by omega), nI_cl (show T 0 0 - 1 < 2147483648 by omega), s6, e6, g6, e3, rBo]
    · rw [if_neg (fun q => g6 q.2.2)]
      refine ⟨σ, ?_, h, am_pr.rf hF, rfl⟩
      simp only [s65_0, s65_1, s65_4, s65_5, s65_8, s65_9, s65_10, s65_13, s65_14, s65_15, s65_18, s65_19, s65_22, s65_23, s65_25, s65_28, s65_29, s65_30, s65_33, s65_36, s65_39, s65_40, s65_43, s65_44, s65_45, s65_46, s65_49, s65_52, s65_53, s65_54, s65_55, s65_57, s65_58, s65_59, s65_62, s65_63, s65_64, s65_148, s65_149, s65_150, s65_153, s65_154, s65_155, s65_156, s65_159, s65_160, s65_161, s65_162, s65_164, s65_165, s65_168, s65_169, s65_170, s65_173, s65_174, s65_175, s65_176, s65_179, s65_180, s65_181, s65_182, s65_185, s65_186, s65_187, s65_190, s65_191, s65_192, s65_195, s65_196, s65_197, s65_200, s65_203, s65_204, s65_207, s65_210, s65_211, s65_214, s65_215, s65_218, s65_219, s65_220, s65_221, s65_224, s65_225, s65_228, s65_231, s65_232, s65_235, s65_236, s65_237, s65_238, s65_241, s65_244, s65_245, s65_248, s65_251, s65_252, s65_255, s65_256, s65_259, s65_260, s65_261, s65_262, s65_265, s65_266, s65_269, s65_272, s65_273, s65_276, s65_277, s65_278, s65_279, am_pu_s, am_pu_n, va_rf_s, va_rf_n, Option.bind_some, true_or, or_true, eq_self, if_true, if_false, ite_self, ite_true, ite_false, ↓reduceIte, reduceCtorEq, Nat.reduceEqDiff, Nat.reduceAdd, Nat.reduceLT, Nat.reduceLeDiff, Nat.reduceMul, Nat.reduceSub, not_true_eq_false, not_false_eq_true, and_self, and_true, true_and, and_false, false_and, hF, kd3, rr3_2, hnx, n01, n02, m120, bI_f hb, nI_EQ, hme, e5, g5, c0, t0, t1, ix6 hF (show T 0 0 - 1 < 40 by omega), nI_cl (show T 0 0 - 1 < 2147483648 by omega), s6, e6, g6, rBo]
  rw [if_neg k62]
  refine ⟨σ, ?_, h, am_pr.rf hF, rfl⟩
  simp only [s65_0, s65_1, s65_4, s65_5, s65_8, s65_9, s65_10, s65_13, s65_14, s65_15, s65_18, s65_19, s65_22, s65_23, s65_25, s65_28, s65_29, s65_30, s65_33, s65_36, s65_39, s65_40, s65_43, s65_44, s65_45, s65_46, s65_49, s65_52, s65_53, s65_54, s65_55, s65_57, s65_58, s65_59, s65_62, s65_63, s65_64, s65_148, s65_149, s65_150, s65_153, s65_154, s65_155, s65_156, s65_159, s65_160, s65_161, s65_162, s65_164, s65_165, s65_168, s65_169, s65_170, s65_173, s65_174, s65_175, s65_176, s65_179, s65_180, s65_181, s65_182, s65_185, s65_186, s65_187, s65_190, s65_191, s65_192, s65_195, s65_196, s65_197, s65_200, s65_203, s65_204, s65_207, s65_210, s65_211, s65_214, s65_215, s65_218, s65_219, s65_220, s65_221, s65_224, s65_225, s65_228, s65_231, s65_232, s65_235, s65_236, s65_237, s65_238, s65_241, s65_244, s65_245, s65_248, s65_251, s65_252, s65_255, s65_256, s65_259, s65_260, s65_261, s65_262, s65_265, s65_266, s65_269, s65_272, s65_273, s65_276, s65_277, s65_278, s65_279, am_pu_s, am_pu_n, va_rf_s, va_rf_n, Option.bind_some, true_or, or_true, eq_self, if_true, if_false, ite_self, ite_true, ite_false, ↓reduceIte, reduceCtorEq, Nat.reduceEqDiff, Nat.reduceAdd, Nat.reduceLT, Nat.reduceLeDiff, Nat.reduceMul, Nat.reduceSub, not_true_eq_false, not_false_eq_true, and_self, and_true, true_and, and_false, false_and, hF, kd3, hnx, n01, n02, m120, bI_f hb, E 40 (by decide), E 46 (by decide), E 50 (by decide), E 51 (by decide), E 52 (by decide), E 60 (by decide), E 62 (by decide), E 93 (by decide), E 94 (by decide), k40, k46, k50', k60, k62, k93, k94, rBo]
end CD
