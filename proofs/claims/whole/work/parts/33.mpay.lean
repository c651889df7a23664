/-! the model: what one pays -/
section MR
variable {S : am_St} {σ : am_M} {N b g j : Nat}
theorem mR_F (h : mRep S σ) : am_F σ := h.1
theorem mR_B (h : mRep S σ) (hb : b < 4) (hj : j < 60) : am_I σ 67 (60 * b + j) = nI (S 0 b j) := (h.2.1.1 b hb).1 j hj
theorem mR_N (h : mRep S σ) (hb : b < 4) : am_I σ 68 b = nI (S 1 b 0) := (h.2.1.1 b hb).2.1
theorem mR_D (h : mRep S σ) (hb : b < 4) (h0 : 0 < S 1 b 0) : am_I σ 69 b = nI (S 2 b 0) := (h.2.1.1 b hb).2.2.1 h0
theorem mR_W (h : mRep S σ) (hb : b < 4) (hg : g < 4) : am_I σ 75 (4 * b + g) = nI (S 3 b g) := (h.2.1.1 b hb).2.2.2 g hg
theorem mR_K (h : mRep S σ) (hg : g < 4) : am_I σ 70 g = nI (S 5 g 0) := h.2.2.1 g hg
theorem mR_T (h : mRep S σ) (hg : g < 4) : am_I σ 71 g = nI (S 6 g 0) := (h.2.1.2.1 g hg).1
theorem mR_Wd (h : mRep S σ) (hg : g < 4) : am_I σ 72 g = nI (S 7 g 0) := (h.2.1.2.1 g hg).2.1
theorem mR_Pa (h : mRep S σ) (hg : g < 4) : am_I σ 73 g = nI (S 8 g 0) := (h.2.1.2.1 g hg).2.2.1
theorem mR_Ow (h : mRep S σ) (hg : g < 4) : am_I σ 74 g = nI (S 9 g 0) := (h.2.1.2.1 g hg).2.2.2
theorem mR_G (h : mRep S σ) : am_I σ 66 5 = nI (S 4 0 0) := h.2.2.2.1
theorem mR_sn (h : mRep S σ) : am_I σ 66 12 = nI (S 10 0 0) := h.2.2.2.2.1
theorem sO_N (h : sOK N S) (hb : b < 4) : S 1 b 0 ≤ 60 := (h.1.1 b hb).1
theorem sO_B (h : sOK N S) (hb : b < 4) (hj : j < 60) : S 0 b j < 128 := (h.1.1 b hb).2.1 j hj
theorem sO_D (h : sOK N S) (hb : b < 4) : S 2 b 0 ≤ 40 := (h.1.1 b hb).2.2.1
theorem sO_W (h : sOK N S) (hb : b < 4) (hg : g < 4) : S 3 b g ≤ 99 := (h.1.1 b hb).2.2.2 g hg
theorem sO_G (h : sOK N S) : S 4 0 0 ≤ 4 := h.1.2.1
theorem sO_K (h : sOK N S) (hg : g < 4) : S 5 g 0 ≤ 4 := (h.1.2.2.1 g hg).1
theorem sO_T (h : sOK N S) (hg : g < 4) : S 6 g 0 ≤ 99 := (h.1.2.2.1 g hg).2.1
theorem sO_Wd (h : sOK N S) (hg : g < 4) : S 7 g 0 ≤ 6 := (h.1.2.2.1 g hg).2.2
end MR
theorem mRep.prA {S : am_St} {σ σ' : am_M} (h : mRep S σ) (hp : am_pr nsA σ σ') : mRep S σ' := h.pr hp.A_M
theorem cRep.prA {S : am_St} {σ σ' : am_M} (h : cRep S σ) (hp : am_pr nsA σ σ') : cRep S σ' := h.pr hp.A_C
theorem nI_2D {a b : Nat} : nI 60 * nI a + nI b = nI (60 * a + b) := by rw [pk_mul, nI_add]
theorem nI_2W {a b : Nat} : nI 4 * nI a + nI b = nI (4 * a + b) := by rw [pk_mul, nI_add]
theorem m154 {X : am_X} {d : Nat} {σ : am_M} {S : am_St} {b j : Nat} (h : mRep S σ) (hb : b < 4) (hj : j < 60) : am_v X (d + 1) 154 [.ref (66 : Nat), .int (nI b), .int (nI j)] σ = some (some (.int (nI (S 0 b j))), σ) := by
  rw [s154]
  simp only [s154_0, s154_1, s154_4, s154_6, s154_7, s154_8, s154_9, s154_10, s154_11, am_pu_s, am_pu_n, va_rf_s, va_rf_n, Option.bind_some, true_or, or_true, eq_self, if_true, if_false, ite_self, ite_true, ite_false, ↓reduceIte, reduceCtorEq, Nat.reduceEqDiff, Nat.reduceAdd, Nat.reduceLT, Nat.reduceLeDiff, Nat.reduceMul, Nat.reduceSub, not_true_eq_false, not_false_eq_true, and_self, and_true, true_and, and_false, false_and, h.1, kd66, rr66_0, nI_2D, ix67 h.1 (show 60 * b + j < 240 by omega), nI_cl (show 60 * b + j < 2147483648 by omega), mR_B h hb hj]
theorem m172 {X : am_X} {d : Nat} {σ : am_M} {n : Nat} (hn : n < 128) : am_v X (d + 2) 172 [.int (nI n)] σ = some (some (.int (nI (sBits n + 2 * sBits (n % 8)))), σ) := by
  rw [s172]
  simp only [s172_0, s172_1, s172_4, s172_5, s172_6, s172_8, s172_9, s172_12, s172_13, s172_14, am_pu_s, am_pu_n, va_rf_s, va_rf_n, Option.bind_some, true_or, or_true, eq_self, if_true, if_false, ite_self, ite_true, ite_false, ↓reduceIte, reduceCtorEq, Nat.reduceEqDiff, Nat.reduceAdd, Nat.reduceLT, Nat.reduceLeDiff, Nat.reduceMul, Nat.reduceSub, not_true_eq_false, not_false_eq_true, and_self, and_true, true_and, and_false, false_and, m126, wBits_n n hn, nI_and7 n hn, wBits_n (n % 8) (by omega), pk_mul, nI_add]
theorem m173 {X : am_X} {d : Nat} {σ : am_M} (hF : am_F σ) {n ls : Nat} (hn : n < 128) (hl : ls ≤ 7) (h : am_I σ 66 35 = wLs ls) : ∃ σ', am_v X (d + 3) 173 [.ref (66 : Nat), .int (nI n)] σ = some (some (.int (nI (if n = 0 then 0 else if ls = 7 then 1 else sDf (sHi n) ls))), σ') ∧ am_I σ' 66 35 = wLs (if n = 0 then ls else sHi n) ∧ am_pr nsA σ σ' := by
  have e0 : (nI n = nI 0) = (n = 0) := nI_EQ (by omega) (by decide)
  by_cases h0 : n = 0
  · refine ⟨σ, ?_, by rw [if_pos h0]; exact h, am_pr.rf hF⟩
    rw [s173]
    simp only [s173_0, s173_1, s173_4, s173_5, s173_6, s173_7, s173_10, s173_11, s173_14, s173_15, s173_18, s173_19, s173_22, s173_23, s173_26, s173_29, s173_30, s173_31, s173_32, s173_35, s173_38, s173_39, am_pu_s, am_pu_n, va_rf_s, va_rf_n, Option.bind_some, true_or, or_true, eq_self, if_true, if_false, ite_self, ite_true, ite_false, ↓reduceIte, reduceCtorEq, Nat.reduceEqDiff, Nat.reduceAdd, Nat.reduceLT, Nat.reduceLeDiff, Nat.reduceMul, Nat.reduceSub, not_true_eq_false, not_false_eq_true, and_self, and_true, true_and, and_false, false_and, e0, h0]
  · have hh := sHi_lt n
    have hw := wHi_s h0
    have e2 : wLs (sHi n) = nI (sHi n) := if_neg (by omega)
    refine ⟨am_wI σ 66 35 (nI (sHi n)), ?_, by rw [if_neg h0, am_I_wI, if_pos ⟨rfl, rfl⟩, e2], (am_pr.rf hF).w (by decide)⟩
    rw [s173]
    by_cases h7 : ls = 7
    · have e3 : wLs 7 = -1 := by decide +kernel
      subst h7
      simp only [s173_0, s173_1, s173_4, s173_5, s173_6, s173_7, s173_10, s173_11, s173_14, s173_15, s173_18, s173_19, s173_22, s173_23, s173_26, s173_29, s173_30, s173_31, s173_32, s173_35, s173_38, s173_39, am_pu_s, am_pu_n, va_rf_s, va_rf_n, Option.bind_some, true_or, or_true, eq_self, if_true, if_false, ite_self, ite_true, ite_false, ↓reduceIte, reduceCtorEq, Nat.reduceEqDiff, Nat.reduceAdd, Nat.reduceLT, Nat.reduceLeDiff, Nat.reduceMul, Nat.reduceSub, not_true_eq_false, not_false_eq_true, and_self, and_true, true_and, and_false, false_and, e0, h0, hF, kd66, h, e3, m129, wHiM_n n hn, hw]
    · have e3 : wLs ls = nI ls := if_neg h7
      have e4 : (nI ls = -1) = False := nI_m1 (by omega)
      have e5 : ∀ a, a < 7 → ∀ b, b < 7 → (if nI b < nI a then nI a - nI b else nI b - nI a) = nI (sDf a b) := by decide +kernel
      simp only [s173_0, s173_1, s173_4, s173_5, s173_6, s173_7, s173_10, s173_11, s173_14, s173_15, s173_18, s173_19, s173_22, s173_23, s173_26, s173_29, s173_30, s173_31, s173_32, s173_35, s173_38, s173_39, am_pu_s, am_pu_n, va_rf_s, va_rf_n, Option.bind_some, true_or, or_true, eq_self, if_true, if_false, ite_self, ite_true, ite_false, ↓reduceIte, reduceCtorEq, Nat.reduceEqDiff, Nat.reduceAdd, Nat.reduceLT, Nat.reduceLeDiff, Nat.reduceMul, Nat.reduceSub, not_true_eq_false, not_false_eq_true, and_self, and_true, true_and, and_false, false_and, e0, h0, hF, kd66, h, e3, e4, h7, m129, wHiM_n n hn, hw, m127, e5 _ hh ls (by omega)]
/-- the model's note of the last high note, after k BEATS -/
def mLs (kd : Nat) (B : Nat → Nat) (w k : Nat) : Nat := if kd = 3 ∨ kd = 4 then sLs B w k else 7
theorem m174 {X : am_X} {d : Nat} {σ : am_M} (hF : am_F σ) {kd w k n : Nat} {B : Nat → Nat} (hn : n = sRa (B k) w) (hB : B k < 128) (hk : k < 1000) (hkd : kd ≤ 4) (h : am_I σ 66 35 = wLs (mLs kd B w k)) : ∃ σ', am_v X (d + 4) 174 [.ref (66 : Nat), .int (nI kd), .int (nI n), .int (nI k)] σ = some (some (.int (nI (sWo kd B w k))), σ') ∧ am_I σ' 66 35 = wLs (mLs kd B w (k + 1)) ∧ am_pr nsA σ σ' := by
  have hr := sRa_lt (x := w) hB
  rw [← hn] at hr
  have b1 := sBits_le n
  have e1 : ¬ nI 2 = nI 0 := by decide +kernel
  have e2 : nI k - nI k / nI 2 * nI 2 = nI (k % 2) := pk_rem (by omega) (by decide) (by decide)
  have e3 : (nI (k % 2) = nI 0) = (k % 2 = 0) := nI_EQ (by omega) (by decide)
  have e4 : (nI (sBits n) ≤ nI 1) = (sBits n ≤ 1) := nI_LE (by omega) (by decide)
  have e5 : (sBits n ≤ 1) = ¬ (1 < sBits n) := by simp
  have e6 : sLs B w (k + 1) = if n = 0 then sLs B w k else sHi n := by rw [hn]; rfl
  have hkd5 : kd = 0 ∨ kd = 1 ∨ kd = 2 ∨ kd = 3 ∨ kd = 4 := by omega
  rcases hkd5 with rfl | rfl | rfl | rfl | rfl
  · refine ⟨σ, ?_, h, am_pr.rf hF⟩
    rw [s174]
    simp only [s174_0, s174_1, s174_32, s174_33, s174_36, s174_37, s174_38, s174_39, s174_40, s174_43, s174_44, s174_45, s174_48, s174_49, s174_52, s174_53, s174_54, s174_55, s174_56, s174_59, s174_60, s174_61, s174_62, s174_65, s174_66, s174_69, s174_70, s174_73, s174_74, s174_77, s174_78, s174_79, s174_80, s174_81, s174_84, am_pu_s, am_pu_n, va_rf_s, va_rf_n, Option.bind_some, true_or, or_true, eq_self, if_true, if_false, ite_self, ite_true, ite_false, ↓reduceIte, reduceCtorEq, Nat.reduceEqDiff, Nat.reduceAdd, Nat.reduceLT, Nat.reduceLeDiff, Nat.reduceMul, Nat.reduceSub, not_true_eq_false, not_false_eq_true, and_self, and_true, true_and, and_false, false_and, nI_EQ, m126, wBits_n n hr]
    unfold sWo
    simp only [am_pu_s, am_pu_n, va_rf_s, va_rf_n, Option.bind_some, true_or, or_true, eq_self, if_true, if_false, ite_self, ite_true, ite_false, ↓reduceIte, reduceCtorEq, Nat.reduceEqDiff, Nat.reduceAdd, Nat.reduceLT, Nat.reduceLeDiff, Nat.reduceMul, Nat.reduceSub, not_true_eq_false, not_false_eq_true, and_self, and_true, true_and, and_false, false_and, hn]
  · refine ⟨σ, ?_, h, am_pr.rf hF⟩
    rw [s174]
    simp only [s174_0, s174_1, s174_32, s174_33, s174_36, s174_37, s174_38, s174_39, s174_40, s174_43, s174_44, s174_45, s174_48, s174_49, s174_52, s174_53, s174_54, s174_55, s174_56, s174_59, s174_60, s174_61, s174_62, s174_65, s174_66, s174_69, s174_70, s174_73, s174_74, s174_77, s174_78, s174_79, s174_80, s174_81, s174_84, am_pu_s, am_pu_n, va_rf_s, va_rf_n, Option.bind_some, true_or, or_true, eq_self, if_true, if_false, ite_self, ite_true, ite_false, ↓reduceIte, reduceCtorEq, Nat.reduceEqDiff, Nat.reduceAdd, Nat.reduceLT, Nat.reduceLeDiff, Nat.reduceMul, Nat.reduceSub, not_true_eq_false, not_false_eq_true, and_self, and_true, true_and, and_false, false_and, nI_EQ, m172 hr]
    unfold sWo
    simp only [am_pu_s, am_pu_n, va_rf_s, va_rf_n, Option.bind_some, true_or, or_true, eq_self, if_true, if_false, ite_self, ite_true, ite_false, ↓reduceIte, reduceCtorEq, Nat.reduceEqDiff, Nat.reduceAdd, Nat.reduceLT, Nat.reduceLeDiff, Nat.reduceMul, Nat.reduceSub, not_true_eq_false, not_false_eq_true, and_self, and_true, true_and, and_false, false_and, hn]
  · refine ⟨σ, ?_, h, am_pr.rf hF⟩
    rw [s174]
    unfold sWo
    by_cases hk2 : k % 2 = 0 <;> simp only [s174_0, s174_1, s174_32, s174_33, s174_36, s174_37, s174_38, s174_39, s174_40, s174_43, s174_44, s174_45, s174_48, s174_49, s174_52, s174_53, s174_54, s174_55, s174_56, s174_59, s174_60, s174_61, s174_62, s174_65, s174_66, s174_69, s174_70, s174_73, s174_74, s174_77, s174_78, s174_79, s174_80, s174_81, s174_84, am_pu_s, am_pu_n, va_rf_s, va_rf_n, Option.bind_some, true_or, or_true, eq_self, if_true, if_false, ite_self, ite_true, ite_false, ↓reduceIte, reduceCtorEq, Nat.reduceEqDiff, Nat.reduceAdd, Nat.reduceLT, Nat.reduceLeDiff, Nat.reduceMul, Nat.reduceSub, not_true_eq_false, not_false_eq_true, and_self, and_true, true_and, and_false, false_and, nI_EQ, e1, e2, e3, hk2, m126, wBits_n n hr, pk_mul, ← hn]
  · obtain ⟨σ', a1, a2, a3⟩ := m173 (X := X) (d := d) hF hr (sLs_lt B w k) h
    refine ⟨σ', ?_, ?_, a3⟩
    · rw [s174]
      simp only [s174_0, s174_1, s174_32, s174_33, s174_36, s174_37, s174_38, s174_39, s174_40, s174_43, s174_44, s174_45, s174_48, s174_49, s174_52, s174_53, s174_54, s174_55, s174_56, s174_59, s174_60, s174_61, s174_62, s174_65, s174_66, s174_69, s174_70, s174_73, s174_74, s174_77, s174_78, s174_79, s174_80, s174_81, s174_84, am_pu_s, am_pu_n, va_rf_s, va_rf_n, Option.bind_some, true_or, or_true, eq_self, if_true, if_false, ite_self, ite_true, ite_false, ↓reduceIte, reduceCtorEq, Nat.reduceEqDiff, Nat.reduceAdd, Nat.reduceLT, Nat.reduceLeDiff, Nat.reduceMul, Nat.reduceSub, not_true_eq_false, not_false_eq_true, and_self, and_true, true_and, and_false, false_and, nI_EQ, hF, kd66, a1]
      unfold sWo sCl
      simp only [am_pu_s, am_pu_n, va_rf_s, va_rf_n, Option.bind_some, true_or, or_true, eq_self, if_true, if_false, ite_self, ite_true, ite_false, ↓reduceIte, reduceCtorEq, Nat.reduceEqDiff, Nat.reduceAdd, Nat.reduceLT, Nat.reduceLeDiff, Nat.reduceMul, Nat.reduceSub, not_true_eq_false, not_false_eq_true, and_self, and_true, true_and, and_false, false_and, ← hn]
    · rw [a2]
      show _ = wLs (sLs B w (k + 1))
      rw [e6]
  · obtain ⟨σ', a1, a2, a3⟩ := m173 (X := X) (d := d) hF hr (sLs_lt B w k) h
    refine ⟨σ', ?_, ?_, a3⟩
    · rw [s174]
      unfold sWo sCl
      by_cases hc : 1 < sBits n <;> simp only [s174_0, s174_1, s174_32, s174_33, s174_36, s174_37, s174_38, s174_39, s174_40, s174_43, s174_44, s174_45, s174_48, s174_49, s174_52, s174_53, s174_54, s174_55, s174_56, s174_59, s174_60, s174_61, s174_62, s174_65, s174_66, s174_69, s174_70, s174_73, s174_74, s174_77, s174_78, s174_79, s174_80, s174_81, s174_84, am_pu_s, am_pu_n, va_rf_s, va_rf_n, Option.bind_some, true_or, or_true, eq_self, if_true, if_false, ite_self, ite_true, ite_false, ↓reduceIte, reduceCtorEq, Nat.reduceEqDiff, Nat.reduceAdd, Nat.reduceLT, Nat.reduceLeDiff, Nat.reduceMul, Nat.reduceSub, not_true_eq_false, not_false_eq_true, and_self, and_true, true_and, and_false, false_and, nI_EQ, hF, kd66, a1, m126, wBits_n n hr, e4, e5, hc, nI_add, ← hn]
    · rw [a2]
      show _ = wLs (sLs B w (k + 1))
      rw [e6]
theorem nI_max' {a b : Nat} (ha : a < 2 ^ 30) (hb : b < 2 ^ 30) : (if nI 0 ≤ nI a - nI b then nI a - nI b else nI 0) = nI (a - b) := by
  by_cases h5 : b ≤ a
  · rw [pk_sub h5, if_pos (nI_le (by omega) (by omega))]
  · have h6 : ¬ nI 0 ≤ nI a - nI b := Int32.not_le.mpr (pk_sneg (show b < 2 ^ 30 by omega) (show a < b by omega))
    rw [if_neg h6, show a - b = 0 by omega]
/-- Model.paysBy -/
theorem m175 {X : am_X} {d : Nat} {σ : am_M} {S : am_St} {N b g w n : Nat} (h : mRep S σ) (ho : sOK N S) (hb : b < 4) (hg : g < 4) (hw : w < 64) (hn : n ≤ 60) : ∃ σ', am_v X (d + 5) 175 [.ref (66 : Nat), .int (nI b), .int (nI g), .int (nI w), .int (nI n)] σ = some (some (.int (nI (sW (S 5 g 0) (S 0 b) w n - S 3 b g))), σ') ∧ am_pr nsA σ σ' := by
  have loop : ∀ m k σ1, k + m = n → am_pr nsA σ σ1 → am_I σ1 66 35 = wLs (mLs (S 5 g 0) (S 0 b) w k) → ∃ σ', am_w X (d + 4) 175 11 [some (.ref (66 : Nat)), some (.int (nI b)), some (.int (nI g)), some (.int (nI w)), some (.int (nI n)), some (.int (nI (sW (S 5 g 0) (S 0 b) w k))), some (.int (nI k))] [] σ1 = some (some (.int (nI (sW (S 5 g 0) (S 0 b) w n - S 3 b g))), σ') ∧ am_pr nsA σ σ' := by
    intro m
    induction m with
    | zero =>
      intro k σ1 hk hp1 hl
      have hk : k = n := by omega
      subst hk
      have h1 := h.prA hp1
      have h2 : nI k ≤ nI k := Int32.le_refl _
      have h4 := sW_le (S 5 g 0) (S 0 b) w k
      have h5 := sO_W ho hb hg
      refine ⟨σ1, ?_, hp1⟩
      rw [s175_11]
      simp only [s175_0, s175_1, s175_2, s175_5, s175_6, s175_8, s175_9, s175_13, s175_15, s175_18, s175_20, s175_21, s175_22, s175_25, s175_26, s175_27, s175_28, s175_29, s175_31, s175_34, s175_35, s175_38, s175_40, s175_43, s175_44, s175_46, s175_49, s175_52, s175_54, s175_55, s175_58, s175_59, s175_60, s175_61, s175_62, s175_63, s175_64, s175_65, s175_67, s175_69, s175_72, s175_73, s175_76, s175_78, am_pu_s, am_pu_n, va_rf_s, va_rf_n, Option.bind_some, true_or, or_true, eq_self, if_true, if_false, ite_self, ite_true, ite_false, ↓reduceIte, reduceCtorEq, Nat.reduceEqDiff, Nat.reduceAdd, Nat.reduceLT, Nat.reduceLeDiff, Nat.reduceMul, Nat.reduceSub, not_true_eq_false, not_false_eq_true, and_self, and_true, true_and, and_false, false_and, h1.1, kd66, rr66_11, h2, nI_2W, ix75 h1.1 (show 4 * b + g < 16 by omega), nI_cl (show 4 * b + g < 2147483648 by omega), mR_W h1 hb hg]
      have h6 := nI_max' (show sW (S 5 g 0) (S 0 b) w k < 2 ^ 30 by omega) (show S 3 b g < 2 ^ 30 by omega)
      by_cases h7 : nI 0 ≤ nI (sW (S 5 g 0) (S 0 b) w k) - nI (S 3 b g)
      · rw [if_pos h7] at h6 ⊢
        rw [h6]
      · rw [if_neg h7] at h6 ⊢
        rw [h6]
    | succ m ih =>
      intro k σ1 hk hp1 hl
      have h1 := h.prA hp1
      have h2 : ¬ nI n ≤ nI k := nI_ge (by omega) (by omega)
      obtain ⟨σ2, e2, hl2, hp2⟩ := m174 (X := X) (d := d) hp1.1 (n := sRa (S 0 b k) w) rfl (sO_B ho hb (show k < 60 by omega)) (show k < 1000 by omega) (sO_K ho hg) hl
      rw [s175_11]
      simp only [s175_0, s175_1, s175_2, s175_5, s175_6, s175_8, s175_9, s175_13, s175_15, s175_18, s175_20, s175_21, s175_22, s175_25, s175_26, s175_27, s175_28, s175_29, s175_31, s175_34, s175_35, s175_38, s175_40, s175_43, s175_44, s175_46, s175_49, s175_52, s175_54, s175_55, s175_58, s175_59, s175_60, s175_61, s175_62, s175_63, s175_64, s175_65, s175_67, s175_69, s175_72, s175_73, s175_76, s175_78, am_pu_s, am_pu_n, va_rf_s, va_rf_n, Option.bind_some, true_or, or_true, eq_self, if_true, if_false, ite_self, ite_true, ite_false, ↓reduceIte, reduceCtorEq, Nat.reduceEqDiff, Nat.reduceAdd, Nat.reduceLT, Nat.reduceLeDiff, Nat.reduceMul, Nat.reduceSub, not_true_eq_false, not_false_eq_true, and_self, and_true, true_and, and_false, false_and, h1.1, kd66, rr66_6, h2, ix70 h1.1 hg, nI_cl (show g < 2147483648 by omega), mR_K h1 hg, m154 h1 hb (show k < 60 by omega), m128 (sO_B ho hb (show k < 60 by omega)) hw, e2, nI_add]
      exact ih (k + 1) σ2 (by omega) (hp1.tr hp2) hl2
  have hF := h.1
  have e7 : mLs (S 5 g 0) (S 0 b) w 0 = 7 := by unfold mLs; split <;> rfl
  have e8 : wLs 7 = -1 := by decide +kernel
  obtain ⟨σ', e2, hp2⟩ := loop n 0 (am_wI σ 66 35 (-1)) (by omega) ((am_pr.rf hF).w (by decide)) (by rw [e7, e8, am_I_wI, if_pos ⟨rfl, rfl⟩])
  refine ⟨σ', ?_, hp2⟩
  rw [s175]
  simp only [s175_0, s175_1, s175_2, s175_5, s175_6, s175_8, s175_9, s175_13, s175_15, s175_18, s175_20, s175_21, s175_22, s175_25, s175_26, s175_27, s175_28, s175_29, s175_31, s175_34, s175_35, s175_38, s175_40, s175_43, s175_44, s175_46, s175_49, s175_52, s175_54, s175_55, s175_58, s175_59, s175_60, s175_61, s175_62, s175_63, s175_64, s175_65, s175_67, s175_69, s175_72, s175_73, s175_76, s175_78, am_pu_s, am_pu_n, va_rf_s, va_rf_n, Option.bind_some, true_or, or_true, eq_self, if_true, if_false, ite_self, ite_true, ite_false, ↓reduceIte, reduceCtorEq, Nat.reduceEqDiff, Nat.reduceAdd, Nat.reduceLT, Nat.reduceLeDiff, Nat.reduceMul, Nat.reduceSub, not_true_eq_false, not_false_eq_true, and_self, and_true, true_and, and_false, false_and, am_I_wI, am_I_wJ, am_J_wI, am_J_wJ, am_R_wI, am_R_wJ, am_kd_wI, am_kd_wJ, am_ln_wI, am_ln_wJ, am_ix_wI, am_ix_wJ, am_F_wI, am_F_wJ, am_I_wC, am_J_wC, am_R_wC, am_kd_wC, am_ln_wC, am_ix_wC, am_F_wC, hF, kd66]
  exact e2
/-- Model.paysNow -/
theorem m176 {X : am_X} {d : Nat} {σ : am_M} {S : am_St} {N b g : Nat} (h : mRep S σ) (ho : sOK N S) (hb : b < 4) (hg : g < 4) : ∃ σ', am_v X (d + 6) 176 [.ref (66 : Nat), .int (nI b), .int (nI g)] σ = some (some (.int (nI (sW (S 5 g 0) (S 0 b) (S 7 g 0) (S 1 b 0) - S 3 b g))), σ') ∧ am_pr nsA σ σ' := by
  have hF := h.1
  have h6 := sO_Wd ho hg
  obtain ⟨σ', e2, hp2⟩ := m175 (X := X) (d := d) h ho hb hg (show S 7 g 0 < 64 by omega) (sO_N ho hb)
  refine ⟨σ', ?_, hp2⟩
  rw [s176]
  simp only [s176_0, s176_1, s176_2, s176_3, s176_4, s176_7, s176_8, s176_9, s176_10, s176_13, s176_14, s176_15, s176_18, am_pu_s, am_pu_n, va_rf_s, va_rf_n, Option.bind_some, true_or, or_true, eq_self, if_true, if_false, ite_self, ite_true, ite_false, ↓reduceIte, reduceCtorEq, Nat.reduceEqDiff, Nat.reduceAdd, Nat.reduceLT, Nat.reduceLeDiff, Nat.reduceMul, Nat.reduceSub, not_true_eq_false, not_false_eq_true, and_self, and_true, true_and, and_false, false_and, hF, kd66, rr66_8, rr66_1, ix72 hF hg, ix68 hF hb, nI_cl (show g < 2147483648 by omega), nI_cl (show b < 2147483648 by omega), mR_Wd h hg, mR_N h hb, e2]
/-- Model.shortNow -/
theorem m185 {X : am_X} {d : Nat} {σ : am_M} {S : am_St} {N b g : Nat} (h : mRep S σ) (ho : sOK N S) (hb : b < 4) (hg : g < 4) : ∃ σ', am_v X (d + 6) 185 [.ref (66 : Nat), .int (nI b), .int (nI g)] σ = some (some (.int (wSh (fun k => sW (S 5 g 0) (S 0 b) (S 7 g 0) k - S 3 b g) (S 6 g 0) 0 (S 1 b 0 + 1))), σ') ∧ am_pr nsA σ σ' := by
  have hNb := sO_N ho hb
  have hwd := sO_Wd ho hg
  have hT := sO_T ho hg
  have loop : ∀ m k σ1, k + m = S 1 b 0 + 1 → am_pr nsA σ σ1 → ∃ σ', am_w X (d + 5) 185 2 [some (.ref (66 : Nat)), some (.int (nI b)), some (.int (nI g)), some (.int (nI k))] [] σ1 = some (some (.int (wSh (fun k => sW (S 5 g 0) (S 0 b) (S 7 g 0) k - S 3 b g) (S 6 g 0) k m)), σ') ∧ am_pr nsA σ σ' := by
    intro m
    induction m with
    | zero =>
      intro k σ1 hk hp1
      have h1 := h.prA hp1
      have h2 : nI (S 1 b 0) < nI k := nI_lt (by omega) (by omega)
      refine ⟨σ1, ?_, hp1⟩
      rw [s185_2]
      simp only [s185_0, s185_1, s185_3, s185_4, s185_7, s185_8, s185_9, s185_12, s185_13, s185_14, s185_15, s185_16, s185_19, s185_20, s185_21, s185_22, s185_25, s185_26, s185_29, s185_30, s185_31, s185_34, s185_35, s185_36, s185_39, s185_42, s185_43, am_pu_s, am_pu_n, va_rf_s, va_rf_n, Option.bind_some, true_or, or_true, eq_self, if_true, if_false, ite_self, ite_true, ite_false, ↓reduceIte, reduceCtorEq, Nat.reduceEqDiff, Nat.reduceAdd, Nat.reduceLT, Nat.reduceLeDiff, Nat.reduceMul, Nat.reduceSub, not_true_eq_false, not_false_eq_true, and_self, and_true, true_and, and_false, false_and, h1.1, kd66, rr66_1, ix68 h1.1 hb, nI_cl (show b < 2147483648 by omega), mR_N h1 hb, h2]
      rfl
    | succ m ih =>
      intro k σ1 hk hp1
      have h1 := h.prA hp1
      have h2 : ¬ nI (S 1 b 0) < nI k := nI_nlt (by omega) (by omega)
      obtain ⟨σ2, e2, hp2⟩ := m175 (X := X) (d := d) h1 ho hb hg (show S 7 g 0 < 64 by omega) (show k ≤ 60 by omega)
      have h4 := sW_le (S 5 g 0) (S 0 b) (S 7 g 0) k
      have h7 : (nI (sW (S 5 g 0) (S 0 b) (S 7 g 0) k - S 3 b g) < nI (S 6 g 0)) = (sW (S 5 g 0) (S 0 b) (S 7 g 0) k - S 3 b g < S 6 g 0) := nI_LT (by omega) (by omega)
      have h8 := h1.prA hp2
      rw [s185_2]
      by_cases h9 : S 6 g 0 ≤ sW (S 5 g 0) (S 0 b) (S 7 g 0) k - S 3 b g
      · have h10 : ¬ sW (S 5 g 0) (S 0 b) (S 7 g 0) k - S 3 b g < S 6 g 0 := by omega
        refine ⟨σ2, ?_, hp1.tr hp2⟩
        simp only [s185_0, s185_1, s185_3, s185_4, s185_7, s185_8, s185_9, s185_12, s185_13, s185_14, s185_15, s185_16, s185_19, s185_20, s185_21, s185_22, s185_25, s185_26, s185_29, s185_30, s185_31, s185_34, s185_35, s185_36, s185_39, s185_42, s185_43, am_pu_s, am_pu_n, va_rf_s, va_rf_n, Option.bind_some, true_or, or_true, eq_self, if_true, if_false, ite_self, ite_true, ite_false, ↓reduceIte, reduceCtorEq, Nat.reduceEqDiff, Nat.reduceAdd, Nat.reduceLT, Nat.reduceLeDiff, Nat.reduceMul, Nat.reduceSub, not_true_eq_false, not_false_eq_true, and_self, and_true, true_and, and_false, false_and, h1.1, h8.1, kd66, rr66_1, rr66_8, rr66_7, ix68 h1.1 hb, ix72 h1.1 hg, ix71 h8.1 hg, nI_cl (show b < 2147483648 by omega), nI_cl (show g < 2147483648 by omega), mR_N h1 hb, mR_Wd h1 hg, mR_T h8 hg, h2, e2, h7, h10]
        show _ = some (some (Value.int (if _ then _ else _)), _)
        rw [if_pos h9]
      · have h10 : sW (S 5 g 0) (S 0 b) (S 7 g 0) k - S 3 b g < S 6 g 0 := by omega
        have hs : wSh (fun k => sW (S 5 g 0) (S 0 b) (S 7 g 0) k - S 3 b g) (S 6 g 0) k (m + 1) = wSh (fun k => sW (S 5 g 0) (S 0 b) (S 7 g 0) k - S 3 b g) (S 6 g 0) (k + 1) m := by
          show (if _ then _ else _) = _
          rw [if_neg h9]
        rw [hs]
        simp only [s185_0, s185_1, s185_3, s185_4, s185_7, s185_8, s185_9, s185_12, s185_13, s185_14, s185_15, s185_16, s185_19, s185_20, s185_21, s185_22, s185_25, s185_26, s185_29, s185_30, s185_31, s185_34, s185_35, s185_36, s185_39, s185_42, s185_43, am_pu_s, am_pu_n, va_rf_s, va_rf_n, Option.bind_some, true_or, or_true, eq_self, if_true, if_false, ite_self, ite_true, ite_false, ↓reduceIte, reduceCtorEq, Nat.reduceEqDiff, Nat.reduceAdd, Nat.reduceLT, Nat.reduceLeDiff, Nat.reduceMul, Nat.reduceSub, not_true_eq_false, not_false_eq_true, and_self, and_true, true_and, and_false, false_and, h1.1, h8.1, kd66, rr66_1, rr66_8, rr66_7, ix68 h1.1 hb, ix72 h1.1 hg, ix71 h8.1 hg, nI_cl (show b < 2147483648 by omega), nI_cl (show g < 2147483648 by omega), mR_N h1 hb, mR_Wd h1 hg, mR_T h8 hg, h2, e2, h7, h10, nI_add]
        exact ih (k + 1) σ2 (by omega) (hp1.tr hp2)
  obtain ⟨σ', e2, hp2⟩ := loop (S 1 b 0 + 1) 0 σ (by omega) (am_pr.rf h.1)
  refine ⟨σ', ?_, hp2⟩
  rw [s185]
  simp only [s185_0, s185_1, s185_3, s185_4, s185_7, s185_8, s185_9, s185_12, s185_13, s185_14, s185_15, s185_16, s185_19, s185_20, s185_21, s185_22, s185_25, s185_26, s185_29, s185_30, s185_31, s185_34, s185_35, s185_36, s185_39, s185_42, s185_43, am_pu_s, am_pu_n, va_rf_s, va_rf_n, Option.bind_some, true_or, or_true, eq_self, if_true, if_false, ite_self, ite_true, ite_false, ↓reduceIte, reduceCtorEq, Nat.reduceEqDiff, Nat.reduceAdd, Nat.reduceLT, Nat.reduceLeDiff, Nat.reduceMul, Nat.reduceSub, not_true_eq_false, not_false_eq_true, and_self, and_true, true_and, and_false, false_and]
  exact e2
