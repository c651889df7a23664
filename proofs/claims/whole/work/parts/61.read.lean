/-! the PAGE read as a TUNE -/
def rdL (S : am_St) : Nat → Nat → am_T → Nat × am_T
  | i, 0, T => (i, T)
  | i, k + 1, T => match rdS T (S 15 i 0) with
    | none => (i, T)
    | some T' => rdL S (i + 1) k T'
def tZ : am_T := fun _ _ => 0
def rdR (S : am_St) : Nat × am_T := rdL S 0 (S 14 0 0) tZ
theorem tOK_Z : tOK tZ 0 := ⟨⟨by decide, by decide, by decide, by decide, by decide⟩, fun q => absurd (show 2 ≤ 0 from q) (by decide), fun q => absurd (show 0 = 1 from q) (by decide), fun q => absurd (show 0 = 1 from q) (by decide), ⟨by decide, by decide, fun j hj => absurd (show j < 0 from hj) (by omega)⟩, fun j hj => absurd (show j < 0 from hj) (by omega)⟩
theorem rdL_le (S : am_St) : ∀ k i T, i ≤ (rdL S i k T).1 ∧ (rdL S i k T).1 ≤ i + k
  | 0, i, T => ⟨Nat.le_refl _, Nat.le_refl _⟩
  | k + 1, i, T => by
    rw [rdL]
    cases rdS T (S 15 i 0) with
    | none => exact ⟨Nat.le_refl _, by dsimp only; omega⟩
    | some T' =>
      have := rdL_le S k (i + 1) T'
      dsimp only
      omega
theorem rdL_ok (S : am_St) : ∀ k i T, tOK T i → tOK (rdL S i k T).2 (rdL S i k T).1
  | 0, i, T, h => h
  | k + 1, i, T, h => by
    rw [rdL]
    cases hr : rdS T (S 15 i 0) with
    | none => exact h
    | some T' => exact rdL_ok S k (i + 1) T' (rdS_ok h hr)
theorem rdR_ok (S : am_St) : tOK (rdR S).2 (rdR S).1 := rdL_ok S _ 0 _ tOK_Z
theorem rdR_le (S : am_St) : (rdR S).1 ≤ S 14 0 0 := by
  have := (rdL_le S (S 14 0 0) 0 tZ).2
  unfold rdR
  omega
abbrev wTn (S : am_St) : Prop := (rdR S).1 = S 14 0 0 ∧ (rdR S).2 0 0 = 0 ∧ (rdR S).2 1 0 = 0 ∧ (rdR S).2 5 0 = 1
section RD
variable {X : am_X} {d N : Nat} {σ : am_M} {S : am_St}
theorem cRd_w10 {T : am_T} {v : Int32} (h : cRd T σ) : cRd T (am_wI σ 3 10 v) := by
  obtain ⟨⟨hF, ⟨c0, c4, c6, c7, c8⟩, cb, cs⟩, m1, m2, m3, m4⟩ := h
  refine ⟨⟨hF, ⟨?_, ?_, ?_, ?_, ?_⟩, fun j hj => ?_, fun j hj => ?_⟩, ?_, fun q => ?_, fun q => ?_, ?_⟩
  · simp only [am_I_wI, am_pu_s, am_pu_n, va_rf_s, va_rf_n, Option.bind_some, true_or, or_true, eq_self, if_true, if_false, ite_self, ite_true, ite_false, ↓reduceIte, reduceCtorEq, Nat.reduceEqDiff, Nat.reduceAdd, Nat.reduceLT, Nat.reduceLeDiff, Nat.reduceMul, Nat.reduceSub, not_true_eq_false, not_false_eq_true, and_self, and_true, true_and, and_false, false_and]; exact c0
  · simp only [am_I_wI, am_pu_s, am_pu_n, va_rf_s, va_rf_n, Option.bind_some, true_or, or_true, eq_self, if_true, if_false, ite_self, ite_true, ite_false, ↓reduceIte, reduceCtorEq, Nat.reduceEqDiff, Nat.reduceAdd, Nat.reduceLT, Nat.reduceLeDiff, Nat.reduceMul, Nat.reduceSub, not_true_eq_false, not_false_eq_true, and_self, and_true, true_and, and_false, false_and]; exact c4
  · simp only [am_I_wI, am_pu_s, am_pu_n, va_rf_s, va_rf_n, Option.bind_some, true_or, or_true, eq_self, if_true, if_false, ite_self, ite_true, ite_false, ↓reduceIte, reduceCtorEq, Nat.reduceEqDiff, Nat.reduceAdd, Nat.reduceLT, Nat.reduceLeDiff, Nat.reduceMul, Nat.reduceSub, not_true_eq_false, not_false_eq_true, and_self, and_true, true_and, and_false, false_and]; exact c6
  · simp only [am_I_wI, am_pu_s, am_pu_n, va_rf_s, va_rf_n, Option.bind_some, true_or, or_true, eq_self, if_true, if_false, ite_self, ite_true, ite_false, ↓reduceIte, reduceCtorEq, Nat.reduceEqDiff, Nat.reduceAdd, Nat.reduceLT, Nat.reduceLeDiff, Nat.reduceMul, Nat.reduceSub, not_true_eq_false, not_false_eq_true, and_self, and_true, true_and, and_false, false_and]; exact c7
  · simp only [am_I_wI, am_pu_s, am_pu_n, va_rf_s, va_rf_n, Option.bind_some, true_or, or_true, eq_self, if_true, if_false, ite_self, ite_true, ite_false, ↓reduceIte, reduceCtorEq, Nat.reduceEqDiff, Nat.reduceAdd, Nat.reduceLT, Nat.reduceLeDiff, Nat.reduceMul, Nat.reduceSub, not_true_eq_false, not_false_eq_true, and_self, and_true, true_and, and_false, false_and]; exact c8
  · simp only [am_I_wI, am_pu_s, am_pu_n, va_rf_s, va_rf_n, Option.bind_some, true_or, or_true, eq_self, if_true, if_false, ite_self, ite_true, ite_false, ↓reduceIte, reduceCtorEq, Nat.reduceEqDiff, Nat.reduceAdd, Nat.reduceLT, Nat.reduceLeDiff, Nat.reduceMul, Nat.reduceSub, not_true_eq_false, not_false_eq_true, and_self, and_true, true_and, and_false, false_and]; exact cb j hj
  · simp only [am_I_wI, am_pu_s, am_pu_n, va_rf_s, va_rf_n, Option.bind_some, true_or, or_true, eq_self, if_true, if_false, ite_self, ite_true, ite_false, ↓reduceIte, reduceCtorEq, Nat.reduceEqDiff, Nat.reduceAdd, Nat.reduceLT, Nat.reduceLeDiff, Nat.reduceMul, Nat.reduceSub, not_true_eq_false, not_false_eq_true, and_self, and_true, true_and, and_false, false_and]; exact cs j hj
  · simp only [am_I_wI, am_pu_s, am_pu_n, va_rf_s, va_rf_n, Option.bind_some, true_or, or_true, eq_self, if_true, if_false, ite_self, ite_true, ite_false, ↓reduceIte, reduceCtorEq, Nat.reduceEqDiff, Nat.reduceAdd, Nat.reduceLT, Nat.reduceLeDiff, Nat.reduceMul, Nat.reduceSub, not_true_eq_false, not_false_eq_true, and_self, and_true, true_and, and_false, false_and]; exact m1
  · simp only [am_I_wI, am_pu_s, am_pu_n, va_rf_s, va_rf_n, Option.bind_some, true_or, or_true, eq_self, if_true, if_false, ite_self, ite_true, ite_false, ↓reduceIte, reduceCtorEq, Nat.reduceEqDiff, Nat.reduceAdd, Nat.reduceLT, Nat.reduceLeDiff, Nat.reduceMul, Nat.reduceSub, not_true_eq_false, not_false_eq_true, and_self, and_true, true_and, and_false, false_and]; exact m2 q
  · simp only [am_I_wI, am_pu_s, am_pu_n, va_rf_s, va_rf_n, Option.bind_some, true_or, or_true, eq_self, if_true, if_false, ite_self, ite_true, ite_false, ↓reduceIte, reduceCtorEq, Nat.reduceEqDiff, Nat.reduceAdd, Nat.reduceLT, Nat.reduceLeDiff, Nat.reduceMul, Nat.reduceSub, not_true_eq_false, not_false_eq_true, and_self, and_true, true_and, and_false, false_and]; exact m3 q
  · simp only [am_I_wI, am_pu_s, am_pu_n, va_rf_s, va_rf_n, Option.bind_some, true_or, or_true, eq_self, if_true, if_false, ite_self, ite_true, ite_false, ↓reduceIte, reduceCtorEq, Nat.reduceEqDiff, Nat.reduceAdd, Nat.reduceLT, Nat.reduceLeDiff, Nat.reduceMul, Nat.reduceSub, not_true_eq_false, not_false_eq_true, and_self, and_true, true_and, and_false, false_and]; exact m4
theorem mRd_w18 {T : am_T} {v : Int32} (h : mRd T σ) : mRd T (am_wI σ 66 18 v) := by
  obtain ⟨⟨hF, ⟨c0, c4, c6, c7, c8⟩, cb, cs⟩, m1, m2, m3, m4⟩ := h
  refine ⟨⟨hF, ⟨?_, ?_, ?_, ?_, ?_⟩, fun j hj => ?_, fun j hj => ?_⟩, ?_, fun q => ?_, fun q => ?_, fun q => ?_⟩
  · simp only [am_I_wI, am_pu_s, am_pu_n, va_rf_s, va_rf_n, Option.bind_some, true_or, or_true, eq_self, if_true, if_false, ite_self, ite_true, ite_false, ↓reduceIte, reduceCtorEq, Nat.reduceEqDiff, Nat.reduceAdd, Nat.reduceLT, Nat.reduceLeDiff, Nat.reduceMul, Nat.reduceSub, not_true_eq_false, not_false_eq_true, and_self, and_true, true_and, and_false, false_and]; exact c0
  · simp only [am_I_wI, am_pu_s, am_pu_n, va_rf_s, va_rf_n, Option.bind_some, true_or, or_true, eq_self, if_true, if_false, ite_self, ite_true, ite_false, ↓reduceIte, reduceCtorEq, Nat.reduceEqDiff, Nat.reduceAdd, Nat.reduceLT, Nat.reduceLeDiff, Nat.reduceMul, Nat.reduceSub, not_true_eq_false, not_false_eq_true, and_self, and_true, true_and, and_false, false_and]; exact c4
  · simp only [am_I_wI, am_pu_s, am_pu_n, va_rf_s, va_rf_n, Option.bind_some, true_or, or_true, eq_self, if_true, if_false, ite_self, ite_true, ite_false, ↓reduceIte, reduceCtorEq, Nat.reduceEqDiff, Nat.reduceAdd, Nat.reduceLT, Nat.reduceLeDiff, Nat.reduceMul, Nat.reduceSub, not_true_eq_false, not_false_eq_true, and_self, and_true, true_and, and_false, false_and]; exact c6
  · simp only [am_I_wI, am_pu_s, am_pu_n, va_rf_s, va_rf_n, Option.bind_some, true_or, or_true, eq_self, if_true, if_false, ite_self, ite_true, ite_false, ↓reduceIte, reduceCtorEq, Nat.reduceEqDiff, Nat.reduceAdd, Nat.reduceLT, Nat.reduceLeDiff, Nat.reduceMul, Nat.reduceSub, not_true_eq_false, not_false_eq_true, and_self, and_true, true_and, and_false, false_and]; exact c7
  · simp only [am_I_wI, am_pu_s, am_pu_n, va_rf_s, va_rf_n, Option.bind_some, true_or, or_true, eq_self, if_true, if_false, ite_self, ite_true, ite_false, ↓reduceIte, reduceCtorEq, Nat.reduceEqDiff, Nat.reduceAdd, Nat.reduceLT, Nat.reduceLeDiff, Nat.reduceMul, Nat.reduceSub, not_true_eq_false, not_false_eq_true, and_self, and_true, true_and, and_false, false_and]; exact c8
  · simp only [am_I_wI, am_pu_s, am_pu_n, va_rf_s, va_rf_n, Option.bind_some, true_or, or_true, eq_self, if_true, if_false, ite_self, ite_true, ite_false, ↓reduceIte, reduceCtorEq, Nat.reduceEqDiff, Nat.reduceAdd, Nat.reduceLT, Nat.reduceLeDiff, Nat.reduceMul, Nat.reduceSub, not_true_eq_false, not_false_eq_true, and_self, and_true, true_and, and_false, false_and]; exact cb j hj
  · simp only [am_I_wI, am_pu_s, am_pu_n, va_rf_s, va_rf_n, Option.bind_some, true_or, or_true, eq_self, if_true, if_false, ite_self, ite_true, ite_false, ↓reduceIte, reduceCtorEq, Nat.reduceEqDiff, Nat.reduceAdd, Nat.reduceLT, Nat.reduceLeDiff, Nat.reduceMul, Nat.reduceSub, not_true_eq_false, not_false_eq_true, and_self, and_true, true_and, and_false, false_and]; exact cs j hj
  · simp only [am_I_wI, am_pu_s, am_pu_n, va_rf_s, va_rf_n, Option.bind_some, true_or, or_true, eq_self, if_true, if_false, ite_self, ite_true, ite_false, ↓reduceIte, reduceCtorEq, Nat.reduceEqDiff, Nat.reduceAdd, Nat.reduceLT, Nat.reduceLeDiff, Nat.reduceMul, Nat.reduceSub, not_true_eq_false, not_false_eq_true, and_self, and_true, true_and, and_false, false_and]; exact m1
  · simp only [am_I_wI, am_pu_s, am_pu_n, va_rf_s, va_rf_n, Option.bind_some, true_or, or_true, eq_self, if_true, if_false, ite_self, ite_true, ite_false, ↓reduceIte, reduceCtorEq, Nat.reduceEqDiff, Nat.reduceAdd, Nat.reduceLT, Nat.reduceLeDiff, Nat.reduceMul, Nat.reduceSub, not_true_eq_false, not_false_eq_true, and_self, and_true, true_and, and_false, false_and]; exact m2 q
  · simp only [am_I_wI, am_pu_s, am_pu_n, va_rf_s, va_rf_n, Option.bind_some, true_or, or_true, eq_self, if_true, if_false, ite_self, ite_true, ite_false, ↓reduceIte, reduceCtorEq, Nat.reduceEqDiff, Nat.reduceAdd, Nat.reduceLT, Nat.reduceLeDiff, Nat.reduceMul, Nat.reduceSub, not_true_eq_false, not_false_eq_true, and_self, and_true, true_and, and_false, false_and]; exact m3 q
  · simp only [am_I_wI, am_pu_s, am_pu_n, va_rf_s, va_rf_n, Option.bind_some, true_or, or_true, eq_self, if_true, if_false, ite_self, ite_true, ite_false, ↓reduceIte, reduceCtorEq, Nat.reduceEqDiff, Nat.reduceAdd, Nat.reduceLT, Nat.reduceLeDiff, Nat.reduceMul, Nat.reduceSub, not_true_eq_false, not_false_eq_true, and_self, and_true, true_and, and_false, false_and]; exact m4 q
theorem m62 (h : cRep S σ) (hO : sOK N S) : ∃ σ', am_v X (d + 7) 62 [.ref (3 : Nat), .ref (1 : Nat)] σ = some (none, σ') ∧ cRd (rdR S).2 σ' ∧ am_pr nsA σ σ' ∧ am_I σ' 3 10 = nI (rdR S).1 := by
  have hF := h.1
  have hL := sO_L hO
  have loop : ∀ k i T σ1, i + k = S 14 0 0 → tOK T i → cRd T σ1 → am_pr nsA σ σ1 → am_I σ1 3 10 = nI (S 14 0 0) → ∃ σ', am_w X (d + 6) 62 45 [some (.ref (3 : Nat)), some (.ref (1 : Nat)), some (.int (nI i))] [] σ1 = some (none, σ') ∧ cRd (rdL S i k T).2 σ' ∧ am_pr nsA σ σ' ∧ am_I σ' 3 10 = nI (rdL S i k T).1 := by
    intro k
    induction k with
    | zero =>
      intro i T σ1 hk hT hc hp h10
      have hk : i = S 14 0 0 := by omega
      subst hk
      have h1 := h.prA hp
      refine ⟨σ1, ?_, hc, hp, h10⟩
      rw [s62_45]
      simp only [s62_46, s62_47, s62_50, s62_77, am_pu_s, am_pu_n, va_rf_s, va_rf_n, Option.bind_some, true_or, or_true, eq_self, if_true, if_false, ite_self, ite_true, ite_false, ↓reduceIte, reduceCtorEq, Nat.reduceEqDiff, Nat.reduceAdd, Nat.reduceLT, Nat.reduceLeDiff, Nat.reduceMul, Nat.reduceSub, not_true_eq_false, not_false_eq_true, and_self, and_true, true_and, and_false, false_and, hp.1, kd1, cR_L h1, Int32.le_refl]
    | succ k ih =>
      intro i T σ1 hk hT hc hp h10
      have h1 := h.prA hp
      have c0 : ¬ nI (S 14 0 0) ≤ nI i := nI_ge (by omega) (by omega)
      have hP := sO_P hO (show i < S 14 0 0 by omega)
      obtain ⟨σ2, e2, r1, r2, r3⟩ := m65 (X := X) (d := d + 1) (c := S 15 i 0) hc hT (by omega) (by omega)
      rw [rdL]
      cases hr : rdS T (S 15 i 0) with
      | none =>
        rw [hr] at e2 r1
        have e2' : am_v X (d + 6) 65 [.ref (3 : Nat), .int (nI (S 15 i 0))] σ1 = some (some (.int (nI 0)), σ2) := e2
        refine ⟨am_wI σ2 3 10 (nI i), ?_, cRd_w10 r1, (hp.tr r2).w (by rfl), ?_⟩
        · rw [s62_45]
          simp only [s62_46, s62_47, s62_50, s62_53, s62_54, s62_55, s62_56, s62_59, s62_62, s62_65, s62_66, s62_67, s62_70, am_pu_s, am_pu_n, va_rf_s, va_rf_n, Option.bind_some, true_or, or_true, eq_self, if_true, if_false, ite_self, ite_true, ite_false, ↓reduceIte, reduceCtorEq, Nat.reduceEqDiff, Nat.reduceAdd, Nat.reduceLT, Nat.reduceLeDiff, Nat.reduceMul, Nat.reduceSub, not_true_eq_false, not_false_eq_true, and_self, and_true, true_and, and_false, false_and, hp.1, r2.1, kd1, kd3, cR_L h1, c0, m24c h1 hO (show i < S 14 0 0 by omega), e2']
        · simp only [am_I_wI, am_pu_s, am_pu_n, va_rf_s, va_rf_n, Option.bind_some, true_or, or_true, eq_self, if_true, if_false, ite_self, ite_true, ite_false, ↓reduceIte, reduceCtorEq, Nat.reduceEqDiff, Nat.reduceAdd, Nat.reduceLT, Nat.reduceLeDiff, Nat.reduceMul, Nat.reduceSub, not_true_eq_false, not_false_eq_true, and_self, and_true, true_and, and_false, false_and]
      | some T' =>
        rw [hr] at e2 r1
        have e2' : am_v X (d + 6) 65 [.ref (3 : Nat), .int (nI (S 15 i 0))] σ1 = some (some (.int (nI 1)), σ2) := e2
        obtain ⟨σ3, e3, r4⟩ := ih (i + 1) T' σ2 (by omega) (rdS_ok hT hr) r1 (hp.tr r2) (by rw [r3]; exact h10)
        refine ⟨σ3, ?_, r4⟩
        rw [s62_45]
        simp only [s62_46, s62_47, s62_50, s62_53, s62_54, s62_55, s62_56, s62_59, s62_62, s62_65, s62_66, s62_67, s62_70, s62_71, s62_74, am_pu_s, am_pu_n, va_rf_s, va_rf_n, Option.bind_some, true_or, or_true, eq_self, if_true, if_false, ite_self, ite_true, ite_false, ↓reduceIte, reduceCtorEq, Nat.reduceEqDiff, Nat.reduceAdd, Nat.reduceLT, Nat.reduceLeDiff, Nat.reduceMul, Nat.reduceSub, not_true_eq_false, not_false_eq_true, and_self, and_true, true_and, and_false, false_and, hp.1, kd1, kd3, cR_L h1, c0, m24c h1 hO (show i < S 14 0 0 by omega), e2', nI_10, nI_add]
        exact e3
  have hp0 : am_pr nsA σ (am_wI (am_wI (am_wI (am_wI (am_wI (am_wI (am_wI (am_wI σ 3 4 (nI 0)) 3 5 (nI 0)) 3 8 (nI 0)) 3 9 (nI 0)) 3 11 (nI 0)) 3 12 (nI 0)) 3 13 (nI 0)) 3 10 (nI (S 14 0 0))) := ((((((((am_pr.rf hF).w (by rfl)).w (by rfl)).w (by rfl)).w (by rfl)).w (by rfl)).w (by rfl)).w (by rfl)).w (by rfl)
  have hc0 : cRd tZ (am_wI (am_wI (am_wI (am_wI (am_wI (am_wI (am_wI (am_wI σ 3 4 (nI 0)) 3 5 (nI 0)) 3 8 (nI 0)) 3 9 (nI 0)) 3 11 (nI 0)) 3 12 (nI 0)) 3 13 (nI 0)) 3 10 (nI (S 14 0 0))) := by
    refine ⟨⟨hF, ⟨?_, ?_, ?_, ?_, ?_⟩, fun j hj => absurd (show j < 0 from hj) (by omega), fun j hj => absurd (show j < 0 from hj) (by omega)⟩, ?_, fun q => absurd (show 2 ≤ 0 from q) (by decide), fun q => absurd (show 0 = 1 from q) (by decide), ?_⟩
    · simp only [am_I_wI, am_pu_s, am_pu_n, va_rf_s, va_rf_n, Option.bind_some, true_or, or_true, eq_self, if_true, if_false, ite_self, ite_true, ite_false, ↓reduceIte, reduceCtorEq, Nat.reduceEqDiff, Nat.reduceAdd, Nat.reduceLT, Nat.reduceLeDiff, Nat.reduceMul, Nat.reduceSub, not_true_eq_false, not_false_eq_true, and_self, and_true, true_and, and_false, false_and]; rfl
    · simp only [am_I_wI, am_pu_s, am_pu_n, va_rf_s, va_rf_n, Option.bind_some, true_or, or_true, eq_self, if_true, if_false, ite_self, ite_true, ite_false, ↓reduceIte, reduceCtorEq, Nat.reduceEqDiff, Nat.reduceAdd, Nat.reduceLT, Nat.reduceLeDiff, Nat.reduceMul, Nat.reduceSub, not_true_eq_false, not_false_eq_true, and_self, and_true, true_and, and_false, false_and]; rfl
    · simp only [am_I_wI, am_pu_s, am_pu_n, va_rf_s, va_rf_n, Option.bind_some, true_or, or_true, eq_self, if_true, if_false, ite_self, ite_true, ite_false, ↓reduceIte, reduceCtorEq, Nat.reduceEqDiff, Nat.reduceAdd, Nat.reduceLT, Nat.reduceLeDiff, Nat.reduceMul, Nat.reduceSub, not_true_eq_false, not_false_eq_true, and_self, and_true, true_and, and_false, false_and]; rfl
    · simp only [am_I_wI, am_pu_s, am_pu_n, va_rf_s, va_rf_n, Option.bind_some, true_or, or_true, eq_self, if_true, if_false, ite_self, ite_true, ite_false, ↓reduceIte, reduceCtorEq, Nat.reduceEqDiff, Nat.reduceAdd, Nat.reduceLT, Nat.reduceLeDiff, Nat.reduceMul, Nat.reduceSub, not_true_eq_false, not_false_eq_true, and_self, and_true, true_and, and_false, false_and]; rfl
    · simp only [am_I_wI, am_pu_s, am_pu_n, va_rf_s, va_rf_n, Option.bind_some, true_or, or_true, eq_self, if_true, if_false, ite_self, ite_true, ite_false, ↓reduceIte, reduceCtorEq, Nat.reduceEqDiff, Nat.reduceAdd, Nat.reduceLT, Nat.reduceLeDiff, Nat.reduceMul, Nat.reduceSub, not_true_eq_false, not_false_eq_true, and_self, and_true, true_and, and_false, false_and]; rfl
    · simp only [am_I_wI, am_pu_s, am_pu_n, va_rf_s, va_rf_n, Option.bind_some, true_or, or_true, eq_self, if_true, if_false, ite_self, ite_true, ite_false, ↓reduceIte, reduceCtorEq, Nat.reduceEqDiff, Nat.reduceAdd, Nat.reduceLT, Nat.reduceLeDiff, Nat.reduceMul, Nat.reduceSub, not_true_eq_false, not_false_eq_true, and_self, and_true, true_and, and_false, false_and]; rfl
    · simp only [am_I_wI, am_pu_s, am_pu_n, va_rf_s, va_rf_n, Option.bind_some, true_or, or_true, eq_self, if_true, if_false, ite_self, ite_true, ite_false, ↓reduceIte, reduceCtorEq, Nat.reduceEqDiff, Nat.reduceAdd, Nat.reduceLT, Nat.reduceLeDiff, Nat.reduceMul, Nat.reduceSub, not_true_eq_false, not_false_eq_true, and_self, and_true, true_and, and_false, false_and]; rfl
  obtain ⟨σ', r1, r2⟩ := loop (S 14 0 0) 0 tZ _ (by omega) tOK_Z hc0 hp0 (by simp only [am_I_wI, am_pu_s, am_pu_n, va_rf_s, va_rf_n, Option.bind_some, true_or, or_true, eq_self, if_true, if_false, ite_self, ite_true, ite_false, ↓reduceIte, reduceCtorEq, Nat.reduceEqDiff, Nat.reduceAdd, Nat.reduceLT, Nat.reduceLeDiff, Nat.reduceMul, Nat.reduceSub, not_true_eq_false, not_false_eq_true, and_self, and_true, true_and, and_false, false_and])
  refine ⟨σ', ?_, r2⟩
  rw [s62]
  simp only [s62_0, s62_1, s62_2, s62_5, s62_6, s62_7, s62_10, s62_11, s62_12, s62_15, s62_16, s62_17, s62_20, s62_21, s62_22, s62_25, s62_26, s62_27, s62_30, s62_31, s62_32, s62_35, s62_36, s62_37, s62_40, s62_43, s62_44, am_pu_s, am_pu_n, va_rf_s, va_rf_n, Option.bind_some, true_or, or_true, eq_self, if_true, if_false, ite_self, ite_true, ite_false, ↓reduceIte, reduceCtorEq, Nat.reduceEqDiff, Nat.reduceAdd, Nat.reduceLT, Nat.reduceLeDiff, Nat.reduceMul, Nat.reduceSub, not_true_eq_false, not_false_eq_true, and_self, and_true, true_and, and_false, false_and, am_I_wI, am_I_wJ, am_J_wI, am_J_wJ, am_R_wI, am_R_wJ, am_kd_wI, am_kd_wJ, am_ln_wI, am_ln_wJ, am_ix_wI, am_ix_wJ, am_F_wI, am_F_wJ, am_I_wC, am_J_wC, am_R_wC, am_kd_wC, am_ln_wC, am_ix_wC, am_F_wC, hF, kd3, kd1, cR_L h]
  exact r1
theorem m63 (h : cRep S σ) (hO : sOK N S) (hc : cRd (rdR S).2 σ) (h10 : am_I σ 3 10 = nI (rdR S).1) : am_v X (d + 1) 63 [.ref (3 : Nat), .ref (1 : Nat)] σ = some (some (.int (bI (wTn S))), σ) := by
  have hF := h.1
  have hL := sO_L hO
  have hr := rdR_le S
  obtain ⟨⟨a0, a1, a4, a5, a6⟩, h2, h3, h5, hB, hs⟩ := rdR_ok S
  have e0 : (nI (rdR S).1 = nI (S 14 0 0)) = ((rdR S).1 = S 14 0 0) := nI_EQ (by omega) (by omega)
  have e1 : (nI ((rdR S).2 0 0) = nI 0) = ((rdR S).2 0 0 = 0) := nI_EQ (by omega) (by decide)
  have e5 : (nI ((rdR S).2 5 0) = nI 0) = ((rdR S).2 5 0 = 0) := nI_EQ (by omega) (by decide)
  have r0 := hc.1.2.1.1
  have r5 := hc.2.1
  have r9 := hc.2.2.2.2
  rw [s63]
  by_cases c0 : (rdR S).1 = S 14 0 0
  · have c0' : (nI (rdR S).1 = nI (S 14 0 0)) = True := by rw [e0]; exact eq_true c0
    by_cases c1 : (rdR S).2 0 0 = 0
    · have c1' : (nI ((rdR S).2 0 0) = nI 0) = True := by rw [e1]; exact eq_true c1
      by_cases c2 : (rdR S).2 1 0 = 0
      · rw [if_pos c2] at r5
        by_cases c3 : (rdR S).2 5 0 = 1
        · rw [bI_t ⟨c0, c1, c2, c3⟩]
          have c3' : ¬ nI ((rdR S).2 5 0) = nI 0 := by rw [e5]; omega
          simp only [s63_0, s63_1, s63_4, s63_5, s63_8, s63_11, s63_12, s63_15, s63_18, s63_19, s63_22, s63_25, s63_26, s63_29, s63_32, s63_33, s63_36, s63_37, am_pu_s, am_pu_n, va_rf_s, va_rf_n, Option.bind_some, true_or, or_true, eq_self, if_true, if_false, ite_self, ite_true, ite_false, ↓reduceIte, reduceCtorEq, Nat.reduceEqDiff, Nat.reduceAdd, Nat.reduceLT, Nat.reduceLeDiff, Nat.reduceMul, Nat.reduceSub, not_true_eq_false, not_false_eq_true, and_self, and_true, true_and, and_false, false_and, hF, kd3, kd1, cR_L h, h10, c0', r0, c1', r5, r9, c3']
        · have c3' : (nI ((rdR S).2 5 0) = nI 0) = True := by rw [e5]; exact eq_true (by omega)
          rw [bI_f (fun q => c3 q.2.2.2)]
          simp only [s63_0, s63_1, s63_4, s63_5, s63_8, s63_11, s63_12, s63_15, s63_18, s63_19, s63_22, s63_25, s63_26, s63_29, s63_32, s63_33, s63_36, s63_37, am_pu_s, am_pu_n, va_rf_s, va_rf_n, Option.bind_some, true_or, or_true, eq_self, if_true, if_false, ite_self, ite_true, ite_false, ↓reduceIte, reduceCtorEq, Nat.reduceEqDiff, Nat.reduceAdd, Nat.reduceLT, Nat.reduceLeDiff, Nat.reduceMul, Nat.reduceSub, not_true_eq_false, not_false_eq_true, and_self, and_true, true_and, and_false, false_and, hF, kd3, kd1, cR_L h, h10, c0', r0, c1', r5, r9, c3']
      · have c2' : ¬ am_I σ 3 5 = nI 0 := by
          rw [r5, if_neg c2, nI_EQ (by split <;> decide) (by decide)]
          split <;> decide
        rw [bI_f (fun q => c2 q.2.2.1)]
        simp only [s63_0, s63_1, s63_4, s63_5, s63_8, s63_11, s63_12, s63_15, s63_18, s63_19, s63_22, s63_25, s63_26, s63_29, s63_32, s63_33, s63_36, s63_37, am_pu_s, am_pu_n, va_rf_s, va_rf_n, Option.bind_some, true_or, or_true, eq_self, if_true, if_false, ite_self, ite_true, ite_false, ↓reduceIte, reduceCtorEq, Nat.reduceEqDiff, Nat.reduceAdd, Nat.reduceLT, Nat.reduceLeDiff, Nat.reduceMul, Nat.reduceSub, not_true_eq_false, not_false_eq_true, and_self, and_true, true_and, and_false, false_and, hF, kd3, kd1, cR_L h, h10, c0', r0, c1', c2']
    · have c1' : ¬ nI ((rdR S).2 0 0) = nI 0 := by rw [e1]; exact c1
      rw [bI_f (fun q => c1 q.2.1)]
      simp only [s63_0, s63_1, s63_4, s63_5, s63_8, s63_11, s63_12, s63_15, s63_18, s63_19, s63_22, s63_25, s63_26, s63_29, s63_32, s63_33, s63_36, s63_37, am_pu_s, am_pu_n, va_rf_s, va_rf_n, Option.bind_some, true_or, or_true, eq_self, if_true, if_false, ite_self, ite_true, ite_false, ↓reduceIte, reduceCtorEq, Nat.reduceEqDiff, Nat.reduceAdd, Nat.reduceLT, Nat.reduceLeDiff, Nat.reduceMul, Nat.reduceSub, not_true_eq_false, not_false_eq_true, and_self, and_true, true_and, and_false, false_and, hF, kd3, kd1, cR_L h, h10, c0', r0, c1']
  · have c0' : ¬ nI (rdR S).1 = nI (S 14 0 0) := by rw [e0]; exact c0
    rw [bI_f (fun q => c0 q.1)]
    simp only [s63_0, s63_1, s63_4, s63_5, s63_8, s63_11, s63_12, s63_15, s63_18, s63_19, s63_22, s63_25, s63_26, s63_29, s63_32, s63_33, s63_36, s63_37, am_pu_s, am_pu_n, va_rf_s, va_rf_n, Option.bind_some, true_or, or_true, eq_self, if_true, if_false, ite_self, ite_true, ite_false, ↓reduceIte, reduceCtorEq, Nat.reduceEqDiff, Nat.reduceAdd, Nat.reduceLT, Nat.reduceLeDiff, Nat.reduceMul, Nat.reduceSub, not_true_eq_false, not_false_eq_true, and_self, and_true, true_and, and_false, false_and, hF, kd3, kd1, cR_L h, h10, c0']
theorem m64 {T : am_T} {k : Nat} (hc : cCo T σ) (hB : tB T) (hk : k < T 7 0) : am_v X (d + 1) 64 [.ref (3 : Nat), .int (nI k)] σ = some (some (.int (nI (T 9 k))), σ) := by
  have hF := hc.1
  have h60 := hB.1
  have c1 : ¬ nI k < nI 0 := nI_pos (by omega)
  have c2 : nI k < nI (T 7 0) := nI_lt hk (by omega)
  rw [s64]
  simp only [s64_0, s64_1, s64_4, s64_5, s64_6, s64_9, s64_12, s64_13, s64_16, s64_17, s64_20, s64_21, s64_22, am_pu_s, am_pu_n, va_rf_s, va_rf_n, Option.bind_some, true_or, or_true, eq_self, if_true, if_false, ite_self, ite_true, ite_false, ↓reduceIte, reduceCtorEq, Nat.reduceEqDiff, Nat.reduceAdd, Nat.reduceLT, Nat.reduceLeDiff, Nat.reduceMul, Nat.reduceSub, not_true_eq_false, not_false_eq_true, and_self, and_true, true_and, and_false, false_and, hF, kd3, rr3_0, hc.2.1.2.2.2.1, c1, c2, ix4 hF (show k < 60 by omega), nI_cl (show k < 2147483648 by omega), hc.2.2.1 k hk]
theorem c89 (h : cRep S σ) (hO : sOK N S) : ∃ σ', am_v X (d + 8) 89 [.ref (0 : Nat)] σ = some (some (.int (nI (rdR S).1)), σ') ∧ am_pr nsA σ σ' := by
  obtain ⟨σ', r1, r2, r3, r4⟩ := m62 (X := X) (d := d) h hO
  refine ⟨σ', ?_, r3⟩
  rw [s89]
  simp only [s89_0, s89_1, s89_4, s89_5, s89_8, s89_11, s89_12, s89_15, s89_18, am_pu_s, am_pu_n, va_rf_s, va_rf_n, Option.bind_some, true_or, or_true, eq_self, if_true, if_false, ite_self, ite_true, ite_false, ↓reduceIte, reduceCtorEq, Nat.reduceEqDiff, Nat.reduceAdd, Nat.reduceLT, Nat.reduceLeDiff, Nat.reduceMul, Nat.reduceSub, not_true_eq_false, not_false_eq_true, and_self, and_true, true_and, and_false, false_and, h.1, r3.1, kd0, kd3, rr0_0, rr0_1, r1, r4]
theorem m146 (h : mRep S σ) (hO : sOK N S) : ∃ σ', am_v X (d + 7) 146 [.ref (66 : Nat)] σ = some (some (.int (nI (rdR S).1)), σ') ∧ mRd (rdR S).2 σ' ∧ am_pr nsA σ σ' ∧ am_I σ' 66 18 = bI (wTn S) := by
  have hF := h.1
  have hL := sO_L hO
  have loop : ∀ k i T σ1, i + k = S 14 0 0 → tOK T i → mRd T σ1 → am_pr nsA σ σ1 → ∃ σ', am_w X (d + 6) 146 42 [some (.ref (66 : Nat)), some (.int (nI i))] [] σ1 = am_w X (d + 6) 146 69 [some (.ref (66 : Nat)), some (.int (nI (rdL S i k T).1))] [] σ' ∧ mRd (rdL S i k T).2 σ' ∧ am_pr nsA σ σ' := by
    intro k
    induction k with
    | zero =>
      intro i T σ1 hk hT hc hp
      have hk : i = S 14 0 0 := by omega
      subst hk
      have h1 := h.prA hp
      refine ⟨σ1, ?_, hc, hp⟩
      rw [s146_42, rdL]
      simp only [s146_43, s146_44, s146_47, am_pu_s, am_pu_n, va_rf_s, va_rf_n, Option.bind_some, true_or, or_true, eq_self, if_true, if_false, ite_self, ite_true, ite_false, ↓reduceIte, reduceCtorEq, Nat.reduceEqDiff, Nat.reduceAdd, Nat.reduceLT, Nat.reduceLeDiff, Nat.reduceMul, Nat.reduceSub, not_true_eq_false, not_false_eq_true, and_self, and_true, true_and, and_false, false_and, hp.1, kd66, mR_L h1, Int32.le_refl]
    | succ k ih =>
      intro i T σ1 hk hT hc hp
      have h1 := h.prA hp
      have c0 : ¬ nI (S 14 0 0) ≤ nI i := nI_ge (by omega) (by omega)
      have hi : i < S 14 0 0 := by omega
      have hP := sO_P hO hi
      obtain ⟨σ2, e2, r1, r2⟩ := m145 (X := X) (d := d + 1) (c := S 15 i 0) hc hT (by omega) (by omega)
      rw [rdL]
      cases hr : rdS T (S 15 i 0) with
      | none =>
        rw [hr] at e2 r1
        have e2' : am_v X (d + 6) 145 [.ref (66 : Nat), .int (nI (S 15 i 0))] σ1 = some (some (.int (nI 0)), σ2) := e2
        refine ⟨σ2, ?_, r1, hp.tr r2⟩
        rw [s146_42]
        simp only [s146_43, s146_44, s146_47, s146_50, s146_51, s146_52, s146_55, s146_56, s146_57, s146_60, am_pu_s, am_pu_n, va_rf_s, va_rf_n, Option.bind_some, true_or, or_true, eq_self, if_true, if_false, ite_self, ite_true, ite_false, ↓reduceIte, reduceCtorEq, Nat.reduceEqDiff, Nat.reduceAdd, Nat.reduceLT, Nat.reduceLeDiff, Nat.reduceMul, Nat.reduceSub, not_true_eq_false, not_false_eq_true, and_self, and_true, true_and, and_false, false_and, hp.1, kd66, rr66_17, mR_L h1, c0, ix79 hp.1 (show i < 40 by omega), nI_cl (show i < 2147483648 by omega), mR_P h1 hi, e2']
      | some T' =>
        rw [hr] at e2 r1
        have e2' : am_v X (d + 6) 145 [.ref (66 : Nat), .int (nI (S 15 i 0))] σ1 = some (some (.int (nI 1)), σ2) := e2
        obtain ⟨σ3, e3, r4⟩ := ih (i + 1) T' σ2 (by omega) (rdS_ok hT hr) r1 (hp.tr r2)
        refine ⟨σ3, ?_, r4⟩
        rw [s146_42]
        simp only [s146_43, s146_44, s146_47, s146_50, s146_51, s146_52, s146_55, s146_56, s146_57, s146_60, s146_63, s146_66, am_pu_s, am_pu_n, va_rf_s, va_rf_n, Option.bind_some, true_or, or_true, eq_self, if_true, if_false, ite_self, ite_true, ite_false, ↓reduceIte, reduceCtorEq, Nat.reduceEqDiff, Nat.reduceAdd, Nat.reduceLT, Nat.reduceLeDiff, Nat.reduceMul, Nat.reduceSub, not_true_eq_false, not_false_eq_true, and_self, and_true, true_and, and_false, false_and, hp.1, kd66, rr66_17, mR_L h1, c0, ix79 hp.1 (show i < 40 by omega), nI_cl (show i < 2147483648 by omega), mR_P h1 hi, e2', nI_10, nI_add]
        exact e3
  have hp0 : am_pr nsA σ (am_wI (am_wI (am_wI (am_wI (am_wI (am_wI (am_wI (am_wI σ 66 24 (nI 0)) 66 25 (nI 0)) 66 26 (nI 0)) 66 27 (nI 1)) 66 28 (nI 0)) 66 31 (nI 0)) 66 32 (nI 0)) 66 18 (nI 0)) := ((((((((am_pr.rf hF).w (by rfl)).w (by rfl)).w (by rfl)).w (by rfl)).w (by rfl)).w (by rfl)).w (by rfl)).w (by rfl)
  have hc0 : mRd tZ (am_wI (am_wI (am_wI (am_wI (am_wI (am_wI (am_wI (am_wI σ 66 24 (nI 0)) 66 25 (nI 0)) 66 26 (nI 0)) 66 27 (nI 1)) 66 28 (nI 0)) 66 31 (nI 0)) 66 32 (nI 0)) 66 18 (nI 0)) := by
    refine ⟨⟨hF, ⟨?_, ?_, ?_, ?_, ?_⟩, fun j hj => absurd (show j < 0 from hj) (by omega), fun j hj => absurd (show j < 0 from hj) (by omega)⟩, ?_, fun _ => ?_, fun q => absurd (show 0 = 1 from q) (by decide), fun q => absurd (show 2 ≤ 0 from q) (by decide)⟩
    · simp only [am_I_wI, am_pu_s, am_pu_n, va_rf_s, va_rf_n, Option.bind_some, true_or, or_true, eq_self, if_true, if_false, ite_self, ite_true, ite_false, ↓reduceIte, reduceCtorEq, Nat.reduceEqDiff, Nat.reduceAdd, Nat.reduceLT, Nat.reduceLeDiff, Nat.reduceMul, Nat.reduceSub, not_true_eq_false, not_false_eq_true, and_self, and_true, true_and, and_false, false_and]; rfl
    · simp only [am_I_wI, am_pu_s, am_pu_n, va_rf_s, va_rf_n, Option.bind_some, true_or, or_true, eq_self, if_true, if_false, ite_self, ite_true, ite_false, ↓reduceIte, reduceCtorEq, Nat.reduceEqDiff, Nat.reduceAdd, Nat.reduceLT, Nat.reduceLeDiff, Nat.reduceMul, Nat.reduceSub, not_true_eq_false, not_false_eq_true, and_self, and_true, true_and, and_false, false_and]; rfl
    · simp only [am_I_wI, am_pu_s, am_pu_n, va_rf_s, va_rf_n, Option.bind_some, true_or, or_true, eq_self, if_true, if_false, ite_self, ite_true, ite_false, ↓reduceIte, reduceCtorEq, Nat.reduceEqDiff, Nat.reduceAdd, Nat.reduceLT, Nat.reduceLeDiff, Nat.reduceMul, Nat.reduceSub, not_true_eq_false, not_false_eq_true, and_self, and_true, true_and, and_false, false_and]; rfl
    · simp only [am_I_wI, am_pu_s, am_pu_n, va_rf_s, va_rf_n, Option.bind_some, true_or, or_true, eq_self, if_true, if_false, ite_self, ite_true, ite_false, ↓reduceIte, reduceCtorEq, Nat.reduceEqDiff, Nat.reduceAdd, Nat.reduceLT, Nat.reduceLeDiff, Nat.reduceMul, Nat.reduceSub, not_true_eq_false, not_false_eq_true, and_self, and_true, true_and, and_false, false_and]; rfl
    · simp only [am_I_wI, am_pu_s, am_pu_n, va_rf_s, va_rf_n, Option.bind_some, true_or, or_true, eq_self, if_true, if_false, ite_self, ite_true, ite_false, ↓reduceIte, reduceCtorEq, Nat.reduceEqDiff, Nat.reduceAdd, Nat.reduceLT, Nat.reduceLeDiff, Nat.reduceMul, Nat.reduceSub, not_true_eq_false, not_false_eq_true, and_self, and_true, true_and, and_false, false_and]; rfl
    · simp only [am_I_wI, am_pu_s, am_pu_n, va_rf_s, va_rf_n, Option.bind_some, true_or, or_true, eq_self, if_true, if_false, ite_self, ite_true, ite_false, ↓reduceIte, reduceCtorEq, Nat.reduceEqDiff, Nat.reduceAdd, Nat.reduceLT, Nat.reduceLeDiff, Nat.reduceMul, Nat.reduceSub, not_true_eq_false, not_false_eq_true, and_self, and_true, true_and, and_false, false_and]; rfl
    · simp only [am_I_wI, am_pu_s, am_pu_n, va_rf_s, va_rf_n, Option.bind_some, true_or, or_true, eq_self, if_true, if_false, ite_self, ite_true, ite_false, ↓reduceIte, reduceCtorEq, Nat.reduceEqDiff, Nat.reduceAdd, Nat.reduceLT, Nat.reduceLeDiff, Nat.reduceMul, Nat.reduceSub, not_true_eq_false, not_false_eq_true, and_self, and_true, true_and, and_false, false_and]; rfl
  obtain ⟨σ1, r1, hm, hp⟩ := loop (S 14 0 0) 0 tZ _ (by omega) tOK_Z hc0 hp0
  have hm' : mRd (rdR S).2 σ1 := hm
  have h1 := h.prA hp
  refine ⟨am_wI σ1 66 18 (bI (wTn S)), ?_, mRd_w18 hm, hp.w (by rfl), by simp only [am_I_wI, am_pu_s, am_pu_n, va_rf_s, va_rf_n, Option.bind_some, true_or, or_true, eq_self, if_true, if_false, ite_self, ite_true, ite_false, ↓reduceIte, reduceCtorEq, Nat.reduceEqDiff, Nat.reduceAdd, Nat.reduceLT, Nat.reduceLeDiff, Nat.reduceMul, Nat.reduceSub, not_true_eq_false, not_false_eq_true, and_self, and_true, true_and, and_false, false_and]⟩
  have hr := rdR_le S
  obtain ⟨⟨a0, a1, a4, a5, a6⟩, h2, h3, h5, hB, hs⟩ := rdR_ok S
  have e0 : (nI (rdR S).1 = nI (S 14 0 0)) = ((rdR S).1 = S 14 0 0) := nI_EQ (by omega) (by omega)
  have e1 : (nI ((rdR S).2 0 0) = nI 0) = ((rdR S).2 0 0 = 0) := nI_EQ (by omega) (by decide)
  have e2 : (nI ((rdR S).2 1 0) = nI 0) = ((rdR S).2 1 0 = 0) := nI_EQ (by omega) (by decide)
  have r24 := hm'.1.2.1.1
  have r26 := hm'.2.1
  have hF1 := hp.1
  rw [s146]
  simp only [s146_0, s146_1, s146_2, s146_5, s146_6, s146_7, s146_10, s146_11, s146_12, s146_15, s146_16, s146_17, s146_20, s146_21, s146_22, s146_25, s146_26, s146_27, s146_30, s146_31, s146_32, s146_35, s146_36, s146_37, s146_40, s146_41, am_pu_s, am_pu_n, va_rf_s, va_rf_n, Option.bind_some, true_or, or_true, eq_self, if_true, if_false, ite_self, ite_true, ite_false, ↓reduceIte, reduceCtorEq, Nat.reduceEqDiff, Nat.reduceAdd, Nat.reduceLT, Nat.reduceLeDiff, Nat.reduceMul, Nat.reduceSub, not_true_eq_false, not_false_eq_true, and_self, and_true, true_and, and_false, false_and, am_I_wI, am_I_wJ, am_J_wI, am_J_wJ, am_R_wI, am_R_wJ, am_kd_wI, am_kd_wJ, am_ln_wI, am_ln_wJ, am_ix_wI, am_ix_wJ, am_F_wI, am_F_wJ, am_I_wC, am_J_wC, am_R_wC, am_kd_wC, am_ln_wC, am_ix_wC, am_F_wC, hF, kd66]
  refine Eq.trans r1 ?_
  show am_w X (d + 6) 146 69 [some (.ref (66 : Nat)), some (.int (nI (rdR S).1))] [] σ1 = _
  by_cases c0 : (rdR S).1 = S 14 0 0
  · have c0' : (nI (rdR S).1 = nI (S 14 0 0)) = True := by rw [e0]; exact eq_true c0
    by_cases c2 : (rdR S).2 1 0 = 0
    · have c2' : (nI ((rdR S).2 1 0) = nI 0) = True := by rw [e2]; exact eq_true c2
      have r27 := hm'.2.2.1 c2
      by_cases c3 : (rdR S).2 5 0 = 1
      · rw [c3] at r27
        have r27' : am_I σ1 66 27 = nI 0 := r27
        by_cases c1 : (rdR S).2 0 0 = 0
        · have c1' : (nI ((rdR S).2 0 0) = nI 0) = True := by rw [e1]; exact eq_true c1
          rw [bI_t ⟨c0, c1, c2, c3⟩]
          simp only [s146_69, s146_70, s146_71, s146_72, s146_75, s146_78, s146_79, s146_82, s146_85, s146_86, s146_89, s146_92, s146_93, s146_96, s146_99, s146_100, s146_103, s146_104, s146_107, s146_108, am_pu_s, am_pu_n, va_rf_s, va_rf_n, Option.bind_some, true_or, or_true, eq_self, if_true, if_false, ite_self, ite_true, ite_false, ↓reduceIte, reduceCtorEq, Nat.reduceEqDiff, Nat.reduceAdd, Nat.reduceLT, Nat.reduceLeDiff, Nat.reduceMul, Nat.reduceSub, not_true_eq_false, not_false_eq_true, and_self, and_true, true_and, and_false, false_and, hF1, kd66, mR_L h1, c0', r26, c2', r27', r24, c1']
        · have c1' : ¬ nI ((rdR S).2 0 0) = nI 0 := by rw [e1]; exact c1
          rw [bI_f (fun q => c1 q.2.1)]
          simp only [s146_69, s146_70, s146_71, s146_72, s146_75, s146_78, s146_79, s146_82, s146_85, s146_86, s146_89, s146_92, s146_93, s146_96, s146_99, s146_100, s146_103, s146_104, s146_107, s146_108, am_pu_s, am_pu_n, va_rf_s, va_rf_n, Option.bind_some, true_or, or_true, eq_self, if_true, if_false, ite_self, ite_true, ite_false, ↓reduceIte, reduceCtorEq, Nat.reduceEqDiff, Nat.reduceAdd, Nat.reduceLT, Nat.reduceLeDiff, Nat.reduceMul, Nat.reduceSub, not_true_eq_false, not_false_eq_true, and_self, and_true, true_and, and_false, false_and, hF1, kd66, mR_L h1, c0', r26, c2', r27', r24, c1']
      · have c5 : (rdR S).2 5 0 = 0 := by omega
        rw [c5] at r27
        have r27' : am_I σ1 66 27 = nI 1 := r27
        rw [bI_f (fun q => c3 q.2.2.2)]
        simp only [s146_69, s146_70, s146_71, s146_72, s146_75, s146_78, s146_79, s146_82, s146_85, s146_86, s146_89, s146_92, s146_93, s146_96, s146_99, s146_100, s146_103, s146_104, s146_107, s146_108, am_pu_s, am_pu_n, va_rf_s, va_rf_n, Option.bind_some, true_or, or_true, eq_self, if_true, if_false, ite_self, ite_true, ite_false, ↓reduceIte, reduceCtorEq, Nat.reduceEqDiff, Nat.reduceAdd, Nat.reduceLT, Nat.reduceLeDiff, Nat.reduceMul, Nat.reduceSub, not_true_eq_false, not_false_eq_true, and_self, and_true, true_and, and_false, false_and, hF1, kd66, mR_L h1, c0', r26, c2', r27', nI_10]
    · have c2' : ¬ nI ((rdR S).2 1 0) = nI 0 := by rw [e2]; exact c2
      rw [bI_f (fun q => c2 q.2.2.1)]
      simp only [s146_69, s146_70, s146_71, s146_72, s146_75, s146_78, s146_79, s146_82, s146_85, s146_86, s146_89, s146_92, s146_93, s146_96, s146_99, s146_100, s146_103, s146_104, s146_107, s146_108, am_pu_s, am_pu_n, va_rf_s, va_rf_n, Option.bind_some, true_or, or_true, eq_self, if_true, if_false, ite_self, ite_true, ite_false, ↓reduceIte, reduceCtorEq, Nat.reduceEqDiff, Nat.reduceAdd, Nat.reduceLT, Nat.reduceLeDiff, Nat.reduceMul, Nat.reduceSub, not_true_eq_false, not_false_eq_true, and_self, and_true, true_and, and_false, false_and, hF1, kd66, mR_L h1, c0', r26, c2']
  · have c0' : ¬ nI (rdR S).1 = nI (S 14 0 0) := by rw [e0]; exact c0
    rw [bI_f (fun q => c0 q.1)]
    simp only [s146_69, s146_70, s146_71, s146_72, s146_75, s146_78, s146_79, s146_82, s146_85, s146_86, s146_89, s146_92, s146_93, s146_96, s146_99, s146_100, s146_103, s146_104, s146_107, s146_108, am_pu_s, am_pu_n, va_rf_s, va_rf_n, Option.bind_some, true_or, or_true, eq_self, if_true, if_false, ite_self, ite_true, ite_false, ↓reduceIte, reduceCtorEq, Nat.reduceEqDiff, Nat.reduceAdd, Nat.reduceLT, Nat.reduceLeDiff, Nat.reduceMul, Nat.reduceSub, not_true_eq_false, not_false_eq_true, and_self, and_true, true_and, and_false, false_and, hF1, kd66, mR_L h1, c0']
theorem c147 (h : mRep S σ) (hO : sOK N S) : ∃ σ', am_v X (d + 8) 147 [.ref (66 : Nat)] σ = some (some (.int (nI (rdR S).1)), σ') ∧ am_pr nsA σ σ' := by
  obtain ⟨σ', r1, r2, r3, r4⟩ := m146 (X := X) (d := d) h hO
  refine ⟨σ', ?_, r3⟩
  rw [s147]
  simp only [s147_0, s147_1, s147_4, am_pu_s, am_pu_n, va_rf_s, va_rf_n, Option.bind_some, true_or, or_true, eq_self, if_true, if_false, ite_self, ite_true, ite_false, ↓reduceIte, reduceCtorEq, Nat.reduceEqDiff, Nat.reduceAdd, Nat.reduceLT, Nat.reduceLeDiff, Nat.reduceMul, Nat.reduceSub, not_true_eq_false, not_false_eq_true, and_self, and_true, true_and, and_false, false_and, h.1, kd66, r1]
end RD
