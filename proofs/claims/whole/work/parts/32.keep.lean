/-! tunes, gates, the keeper: what one pays -/
def isTu (o : Nat) : Prop := ∃ b, b < 4 ∧ (o = 15 + 3 * b ∨ o = 38 + 3 * b)
def isGa (o : Nat) : Prop := ∃ g, g < 4 ∧ (o = 27 + g ∨ o = 50 + g)
theorem isTu_8 {o : Nat} (h : isTu o) : o = 15 ∨ o = 18 ∨ o = 21 ∨ o = 24 ∨ o = 38 ∨ o = 41 ∨ o = 44 ∨ o = 47 := by
  obtain ⟨b, hb, h⟩ := h
  omega
theorem isGa_8 {o : Nat} (h : isGa o) : o = 27 ∨ o = 28 ∨ o = 29 ∨ o = 30 ∨ o = 50 ∨ o = 51 ∨ o = 52 ∨ o = 53 := by
  obtain ⟨b, hb, h⟩ := h
  omega
theorem kdT {σ : am_M} (h : am_F σ) {o : Nat} (ho : isTu o) : am_kd σ o = 7 := by
  rcases isTu_8 ho with rfl | rfl | rfl | rfl | rfl | rfl | rfl | rfl
  · exact kd15 h
  · exact kd18 h
  · exact kd21 h
  · exact kd24 h
  · exact kd38 h
  · exact kd41 h
  · exact kd44 h
  · exact kd47 h
theorem rT0 {σ : am_M} (h : am_F σ) {o : Nat} (ho : isTu o) : am_R σ o 0 = some (o + 1) := by
  rcases isTu_8 ho with rfl | rfl | rfl | rfl | rfl | rfl | rfl | rfl
  · exact rr15_0 h
  · exact rr18_0 h
  · exact rr21_0 h
  · exact rr24_0 h
  · exact rr38_0 h
  · exact rr41_0 h
  · exact rr44_0 h
  · exact rr47_0 h
theorem rT1 {σ : am_M} (h : am_F σ) {o : Nat} (ho : isTu o) : am_R σ o 1 = some (o + 2) := by
  rcases isTu_8 ho with rfl | rfl | rfl | rfl | rfl | rfl | rfl | rfl
  · exact rr15_1 h
  · exact rr18_1 h
  · exact rr21_1 h
  · exact rr24_1 h
  · exact rr38_1 h
  · exact rr41_1 h
  · exact rr44_1 h
  · exact rr47_1 h
theorem kdB {σ : am_M} (h : am_F σ) {o : Nat} (ho : isTu o) : am_kd σ (o + 1) = 20 ∧ am_ln σ (o + 1) = 60 := by
  rcases isTu_8 ho with rfl | rfl | rfl | rfl | rfl | rfl | rfl | rfl
  · exact ⟨kd16 h, ln16 h⟩
  · exact ⟨kd19 h, ln19 h⟩
  · exact ⟨kd22 h, ln22 h⟩
  · exact ⟨kd25 h, ln25 h⟩
  · exact ⟨kd39 h, ln39 h⟩
  · exact ⟨kd42 h, ln42 h⟩
  · exact ⟨kd45 h, ln45 h⟩
  · exact ⟨kd48 h, ln48 h⟩
theorem kdW {σ : am_M} (h : am_F σ) {o : Nat} (ho : isTu o) : am_kd σ (o + 2) = 20 ∧ am_ln σ (o + 2) = 4 := by
  rcases isTu_8 ho with rfl | rfl | rfl | rfl | rfl | rfl | rfl | rfl
  · exact ⟨kd17 h, ln17 h⟩
  · exact ⟨kd20 h, ln20 h⟩
  · exact ⟨kd23 h, ln23 h⟩
  · exact ⟨kd26 h, ln26 h⟩
  · exact ⟨kd40 h, ln40 h⟩
  · exact ⟨kd43 h, ln43 h⟩
  · exact ⟨kd46 h, ln46 h⟩
  · exact ⟨kd49 h, ln49 h⟩
theorem ixB {σ : am_M} (h : am_F σ) {o : Nat} (ho : isTu o) {k : Nat} (hk : k < 60) : am_ix σ 20 (o + 1) (nI k) = true := am_ixN (kdB h ho).1 (kdB h ho).2 hk (by decide)
theorem ixW {σ : am_M} (h : am_F σ) {o : Nat} (ho : isTu o) {k : Nat} (hk : k < 4) : am_ix σ 20 (o + 2) (nI k) = true := am_ixN (kdW h ho).1 (kdW h ho).2 hk (by decide)
theorem kdG {σ : am_M} (h : am_F σ) {o : Nat} (ho : isGa o) : am_kd σ o = 1 := by
  rcases isGa_8 ho with rfl | rfl | rfl | rfl | rfl | rfl | rfl | rfl
  · exact kd27 h
  · exact kd28 h
  · exact kd29 h
  · exact kd30 h
  · exact kd50 h
  · exact kd51 h
  · exact kd52 h
  · exact kd53 h
/-- Tune.beatAt -/
theorem m51 {X : am_X} {d : Nat} {σ : am_M} (hF : am_F σ) {o n : Nat} {B W : Nat → Nat} (ho : isTu o) (hT : cTun σ o n B W) (hn : n ≤ 60) {k : Nat} (hk : k ≤ 60) : am_v X (d + 1) 51 [.ref o, .int (nI k)] σ = some (some (.int (if k < n then nI (B k) else nI 0)), σ) := by
  rw [s51]
  have h1 : ¬ nI k < nI 0 := nI_pos (by omega)
  by_cases h : k < n
  · have h2 : nI k < nI n := nI_lt h (by omega)
    simp only [s51_0, s51_1, s51_4, s51_5, s51_6, s51_9, s51_12, s51_13, s51_16, s51_17, s51_20, s51_21, s51_22, am_pu_s, am_pu_n, va_rf_s, va_rf_n, Option.bind_some, true_or, or_true, eq_self, if_true, if_false, ite_self, ite_true, ite_false, ↓reduceIte, reduceCtorEq, Nat.reduceEqDiff, Nat.reduceAdd, Nat.reduceLT, Nat.reduceLeDiff, Nat.reduceMul, Nat.reduceSub, not_true_eq_false, not_false_eq_true, and_self, and_true, true_and, and_false, false_and, hF, kdT hF ho, rT0 hF ho, hT.1, h1, h2, h, ixB hF ho (show k < 60 by omega), nI_cl (show k < 2147483648 by omega), hT.2.1 k (by omega)]
  · have h2 : ¬ nI k < nI n := nI_nlt (by omega) (by omega)
    simp only [s51_0, s51_1, s51_4, s51_5, s51_6, s51_9, s51_12, s51_13, s51_16, s51_17, s51_20, s51_21, s51_22, am_pu_s, am_pu_n, va_rf_s, va_rf_n, Option.bind_some, true_or, or_true, eq_self, if_true, if_false, ite_self, ite_true, ite_false, ↓reduceIte, reduceCtorEq, Nat.reduceEqDiff, Nat.reduceAdd, Nat.reduceLT, Nat.reduceLeDiff, Nat.reduceMul, Nat.reduceSub, not_true_eq_false, not_false_eq_true, and_self, and_true, true_and, and_false, false_and, hF, kdT hF ho, rT0 hF ho, hT.1, h1, h2, h]
/-- Tune.wornAt -/
theorem m52 {X : am_X} {d : Nat} {σ : am_M} (hF : am_F σ) {o n p g : Nat} {B W : Nat → Nat} (ho : isTu o) (hT : cTun σ o n B W) (hp : isGa p) (hg : g < 4) (hG : am_I σ p 0 = nI g) : am_v X (d + 1) 52 [.ref o, .ref p] σ = some (some (.int (nI (W g))), σ) := by
  rw [s52]
  simp only [s52_0, s52_1, s52_4, s52_5, s52_8, s52_9, am_pu_s, am_pu_n, va_rf_s, va_rf_n, Option.bind_some, true_or, or_true, eq_self, if_true, if_false, ite_self, ite_true, ite_false, ↓reduceIte, reduceCtorEq, Nat.reduceEqDiff, Nat.reduceAdd, Nat.reduceLT, Nat.reduceLeDiff, Nat.reduceMul, Nat.reduceSub, not_true_eq_false, not_false_eq_true, and_self, and_true, true_and, and_false, false_and, hF, kdT hF ho, kdG hF hp, rT1 hF ho, hG, ixW hF ho hg, nI_cl (show g < 2147483648 by omega), hT.2.2 g hg]
/-! worth -/
def sHi (n : Nat) : Nat := if 64 ≤ n then 6 else if 32 ≤ n then 5 else if 16 ≤ n then 4 else if 8 ≤ n then 3 else if 4 ≤ n then 2 else if 2 ≤ n then 1 else 0
theorem sHi_lt (n : Nat) : sHi n < 7 := by
  unfold sHi
  repeat' split
  all_goals decide
theorem wHi_0 {n : Nat} (h : n = 0) : wHi n = -1 := by unfold wHi; rw [if_pos h]
theorem wHi_s {n : Nat} (h : ¬ n = 0) : wHi n = nI (sHi n) := by
  unfold wHi sHi
  rw [if_neg h]
  repeat' split
  all_goals rfl
def sLs (B : Nat → Nat) (w : Nat) : Nat → Nat
  | 0 => 7
  | k + 1 => if sRa (B k) w = 0 then sLs B w k else sHi (sRa (B k) w)
def wLs (n : Nat) : Int32 := if n = 7 then -1 else nI n
def sDf (a b : Nat) : Nat := (a - b) + (b - a)
def sCl (B : Nat → Nat) (w k : Nat) : Nat := if sRa (B k) w = 0 then 0 else if sLs B w k = 7 then 1 else sDf (sHi (sRa (B k) w)) (sLs B w k)
def sWo (kd : Nat) (B : Nat → Nat) (w k : Nat) : Nat :=
  if kd = 1 then sBits (sRa (B k) w) + 2 * sBits (sRa (B k) w % 8)
  else if kd = 2 then (if k % 2 = 0 then 2 * sBits (sRa (B k) w) else 0)
  else if kd = 3 then sCl B w k
  else if kd = 4 then sCl B w k + (if 1 < sBits (sRa (B k) w) then 3 else 0)
  else sBits (sRa (B k) w)
def sW (kd : Nat) (B : Nat → Nat) (w : Nat) : Nat → Nat
  | 0 => 0
  | k + 1 => sW kd B w k + sWo kd B w k
theorem sLs_lt (B : Nat → Nat) (w : Nat) : ∀ k, sLs B w k ≤ 7
  | 0 => Nat.le_refl _
  | k + 1 => by
    unfold sLs
    split
    · exact sLs_lt B w k
    · have := sHi_lt (sRa (B k) w)
      omega
theorem sBits_le (n : Nat) : sBits n ≤ 7 := by unfold sBits; omega
theorem sCl_le (B : Nat → Nat) (w k : Nat) : sCl B w k ≤ 7 := by
  unfold sCl
  split
  · omega
  · split
    · omega
    · have h1 := sHi_lt (sRa (B k) w)
      have h2 := sLs_lt B w k
      unfold sDf
      omega
theorem sWo_le (kd : Nat) (B : Nat → Nat) (w k : Nat) : sWo kd B w k ≤ 21 := by
  have h1 := sBits_le (sRa (B k) w)
  have h2 := sBits_le (sRa (B k) w % 8)
  have h3 := sCl_le B w k
  unfold sWo
  repeat' split
  all_goals omega
theorem sW_le (kd : Nat) (B : Nat → Nat) (w : Nat) : ∀ n, sW kd B w n ≤ 21 * n
  | 0 => Nat.le_refl _
  | n + 1 => by
    have h1 := sW_le kd B w n
    have h2 := sWo_le kd B w n
    unfold sW
    omega
/-- the keeper's fields -/
def kpr (σ : am_M) (kd w k ls wo : Nat) : Prop := am_I σ 54 0 = nI kd ∧ am_I σ 54 1 = nI w ∧ am_I σ 54 2 = nI k ∧ am_I σ 54 3 = wLs ls ∧ am_I σ 54 4 = nI wo
theorem wLs_n {n : Nat} (h : n ≤ 7) : (wLs n = -1) = (n = 7) := by
  unfold wLs
  by_cases h1 : n = 7
  · simp [h1]
  · rw [if_neg h1, nI_m1 (by omega)]
    simp [h1]
theorem m14 {X : am_X} {d : Nat} {σ : am_M} (hF : am_F σ) {n ls : Nat} (hl : ls ≤ 7) (h3 : am_I σ 54 3 = wLs ls) : am_v X (d + 2) 14 [.ref (54 : Nat), .int (wHi n)] σ = some (some (.int (nI (if n = 0 then 0 else if ls = 7 then 1 else sDf (sHi n) ls))), σ) := by
  rw [s14]
  by_cases h0 : n = 0
  · have e0 : wHi 0 = -1 := wHi_0 rfl
    subst h0
    simp only [s14_0, s14_1, s14_2, s14_5, s14_6, s14_7, s14_8, s14_11, s14_12, s14_15, s14_16, s14_19, s14_20, s14_21, s14_24, s14_25, s14_28, am_pu_s, am_pu_n, va_rf_s, va_rf_n, Option.bind_some, true_or, or_true, eq_self, if_true, if_false, ite_self, ite_true, ite_false, ↓reduceIte, reduceCtorEq, Nat.reduceEqDiff, Nat.reduceAdd, Nat.reduceLT, Nat.reduceLeDiff, Nat.reduceMul, Nat.reduceSub, not_true_eq_false, not_false_eq_true, and_self, and_true, true_and, and_false, false_and, e0]
  · have hlt := sHi_lt n
    have e1 : (nI (sHi n) = -1) = False := nI_m1 (by omega)
    by_cases h7 : ls = 7
    · subst h7
      have e2 : wLs 7 = -1 := by decide +kernel
      simp only [s14_0, s14_1, s14_2, s14_5, s14_6, s14_7, s14_8, s14_11, s14_12, s14_15, s14_16, s14_19, s14_20, s14_21, s14_24, s14_25, s14_28, am_pu_s, am_pu_n, va_rf_s, va_rf_n, Option.bind_some, true_or, or_true, eq_self, if_true, if_false, ite_self, ite_true, ite_false, ↓reduceIte, reduceCtorEq, Nat.reduceEqDiff, Nat.reduceAdd, Nat.reduceLT, Nat.reduceLeDiff, Nat.reduceMul, Nat.reduceSub, not_true_eq_false, not_false_eq_true, and_self, and_true, true_and, and_false, false_and, wHi_s h0, h0, hF, kd54, h3, e1, e2]
    · have e2 : wLs ls = nI ls := if_neg h7
      have e3 : (nI ls = -1) = False := nI_m1 (by omega)
      have e4 : ∀ a, a < 7 → ∀ b, b < 7 → (if nI 0 ≤ nI a - nI b then nI a - nI b else - (nI a - nI b)) = nI (sDf a b) := by decide +kernel
      simp only [s14_0, s14_1, s14_2, s14_5, s14_6, s14_7, s14_8, s14_11, s14_12, s14_15, s14_16, s14_19, s14_20, s14_21, s14_24, s14_25, s14_28, am_pu_s, am_pu_n, va_rf_s, va_rf_n, Option.bind_some, true_or, or_true, eq_self, if_true, if_false, ite_self, ite_true, ite_false, ↓reduceIte, reduceCtorEq, Nat.reduceEqDiff, Nat.reduceAdd, Nat.reduceLT, Nat.reduceLeDiff, Nat.reduceMul, Nat.reduceSub, not_true_eq_false, not_false_eq_true, and_self, and_true, true_and, and_false, false_and, wHi_s h0, h0, h7, hF, kd54, h3, e1, e2, e3, m216, e4 _ hlt ls (by omega)]
theorem nI_and7 : ∀ n, n < 128 → nI n &&& nI 7 = nI (n % 8) := by decide +kernel
theorem m15 {X : am_X} {d : Nat} {σ : am_M} (hF : am_F σ) {n kd k cl : Nat} (hn : n < 128) (hk : k < 1000) (h0 : am_I σ 54 0 = nI kd) (h2 : am_I σ 54 2 = nI k) (hkd : kd ≤ 4) : am_v X (d + 2) 15 [.ref (54 : Nat), .int (nI n), .int (nI cl)] σ = some (some (.int (nI (
    if kd = 1 then sBits n + 2 * sBits (n % 8) else if kd = 2 then (if k % 2 = 0 then 2 * sBits n else 0) else if kd = 3 then cl else if kd = 4 then cl + (if 1 < sBits n then 3 else 0) else sBits n))), σ) := by
  have b1 := sBits_le n
  have e1 : ¬ nI 2 = nI 0 := by decide +kernel
  have e2 : nI k - nI k / nI 2 * nI 2 = nI (k % 2) := pk_rem (by omega) (by decide) (by decide)
  have e3 : (nI (k % 2) = nI 0) = (k % 2 = 0) := nI_EQ (by omega) (by decide)
  have e4 : (nI (sBits n) ≤ nI 1) = (sBits n ≤ 1) := nI_LE (by omega) (by decide)
  have e5 : (sBits n ≤ 1) = ¬ (1 < sBits n) := by simp
  rw [s15]
  have hkd5 : kd = 0 ∨ kd = 1 ∨ kd = 2 ∨ kd = 3 ∨ kd = 4 := by omega
  rcases hkd5 with rfl | rfl | rfl | rfl | rfl
  · simp only [s15_0, s15_1, s15_4, s15_5, s15_6, s15_9, s15_40, s15_41, s15_42, s15_43, s15_45, s15_46, s15_49, s15_50, s15_51, s15_52, s15_53, s15_56, s15_57, s15_58, s15_61, s15_62, s15_63, s15_64, s15_67, s15_68, s15_69, s15_70, s15_71, s15_72, s15_73, s15_74, s15_77, s15_78, s15_81, s15_82, s15_83, s15_84, s15_85, am_pu_s, am_pu_n, va_rf_s, va_rf_n, Option.bind_some, true_or, or_true, eq_self, if_true, if_false, ite_self, ite_true, ite_false, ↓reduceIte, reduceCtorEq, Nat.reduceEqDiff, Nat.reduceAdd, Nat.reduceLT, Nat.reduceLeDiff, Nat.reduceMul, Nat.reduceSub, not_true_eq_false, not_false_eq_true, and_self, and_true, true_and, and_false, false_and, hF, kd54, h0, m215, wBc_n n hn, nI_EQ]
  · simp only [s15_0, s15_1, s15_4, s15_5, s15_6, s15_9, s15_40, s15_41, s15_42, s15_43, s15_45, s15_46, s15_49, s15_50, s15_51, s15_52, s15_53, s15_56, s15_57, s15_58, s15_61, s15_62, s15_63, s15_64, s15_67, s15_68, s15_69, s15_70, s15_71, s15_72, s15_73, s15_74, s15_77, s15_78, s15_81, s15_82, s15_83, s15_84, s15_85, am_pu_s, am_pu_n, va_rf_s, va_rf_n, Option.bind_some, true_or, or_true, eq_self, if_true, if_false, ite_self, ite_true, ite_false, ↓reduceIte, reduceCtorEq, Nat.reduceEqDiff, Nat.reduceAdd, Nat.reduceLT, Nat.reduceLeDiff, Nat.reduceMul, Nat.reduceSub, not_true_eq_false, not_false_eq_true, and_self, and_true, true_and, and_false, false_and, hF, kd54, h0, m215, wBc_n n hn, nI_EQ, nI_and7 n hn, wBc_n (n % 8) (by omega), pk_mul, nI_add]
  · by_cases h : k % 2 = 0 <;> simp only [s15_0, s15_1, s15_4, s15_5, s15_6, s15_9, s15_40, s15_41, s15_42, s15_43, s15_45, s15_46, s15_49, s15_50, s15_51, s15_52, s15_53, s15_56, s15_57, s15_58, s15_61, s15_62, s15_63, s15_64, s15_67, s15_68, s15_69, s15_70, s15_71, s15_72, s15_73, s15_74, s15_77, s15_78, s15_81, s15_82, s15_83, s15_84, s15_85, am_pu_s, am_pu_n, va_rf_s, va_rf_n, Option.bind_some, true_or, or_true, eq_self, if_true, if_false, ite_self, ite_true, ite_false, ↓reduceIte, reduceCtorEq, Nat.reduceEqDiff, Nat.reduceAdd, Nat.reduceLT, Nat.reduceLeDiff, Nat.reduceMul, Nat.reduceSub, not_true_eq_false, not_false_eq_true, and_self, and_true, true_and, and_false, false_and, hF, kd54, h0, h2, m215, wBc_n n hn, nI_EQ, e1, e2, e3, h, pk_mul]
  · simp only [s15_0, s15_1, s15_4, s15_5, s15_6, s15_9, s15_40, s15_41, s15_42, s15_43, s15_45, s15_46, s15_49, s15_50, s15_51, s15_52, s15_53, s15_56, s15_57, s15_58, s15_61, s15_62, s15_63, s15_64, s15_67, s15_68, s15_69, s15_70, s15_71, s15_72, s15_73, s15_74, s15_77, s15_78, s15_81, s15_82, s15_83, s15_84, s15_85, am_pu_s, am_pu_n, va_rf_s, va_rf_n, Option.bind_some, true_or, or_true, eq_self, if_true, if_false, ite_self, ite_true, ite_false, ↓reduceIte, reduceCtorEq, Nat.reduceEqDiff, Nat.reduceAdd, Nat.reduceLT, Nat.reduceLeDiff, Nat.reduceMul, Nat.reduceSub, not_true_eq_false, not_false_eq_true, and_self, and_true, true_and, and_false, false_and, hF, kd54, h0, m215, wBc_n n hn, nI_EQ]
  · by_cases h : 1 < sBits n <;> simp only [s15_0, s15_1, s15_4, s15_5, s15_6, s15_9, s15_40, s15_41, s15_42, s15_43, s15_45, s15_46, s15_49, s15_50, s15_51, s15_52, s15_53, s15_56, s15_57, s15_58, s15_61, s15_62, s15_63, s15_64, s15_67, s15_68, s15_69, s15_70, s15_71, s15_72, s15_73, s15_74, s15_77, s15_78, s15_81, s15_82, s15_83, s15_84, s15_85, am_pu_s, am_pu_n, va_rf_s, va_rf_n, Option.bind_some, true_or, or_true, eq_self, if_true, if_false, ite_self, ite_true, ite_false, ↓reduceIte, reduceCtorEq, Nat.reduceEqDiff, Nat.reduceAdd, Nat.reduceLT, Nat.reduceLeDiff, Nat.reduceMul, Nat.reduceSub, not_true_eq_false, not_false_eq_true, and_self, and_true, true_and, and_false, false_and, hF, kd54, h0, m215, wBc_n n hn, nI_EQ, e4, e5, h, nI_add, Nat.add_zero]

theorem m12 {X : am_X} {d : Nat} {σ : am_M} (hF : am_F σ) {p kd w : Nat} (hp : isGa p) (h1 : am_I σ p 1 = nI kd) : ∃ σ', am_v X (d + 1) 12 [.ref (54 : Nat), .ref p, .int (nI w)] σ = some (none, σ') ∧ kpr σ' kd w 0 7 0 ∧ am_pr nsA σ σ' := by
  have e1 : wLs 7 = -1 := by decide +kernel
  refine ⟨am_wI (am_wI (am_wI (am_wI (am_wI σ 54 0 (nI kd)) 54 1 (nI w)) 54 2 (nI 0)) 54 3 (-1)) 54 4 (nI 0), ?_, ?_, ?_⟩
  · rw [s12]
    simp only [s12_0, s12_1, s12_2, s12_5, s12_8, s12_9, s12_10, s12_13, s12_14, s12_15, s12_18, s12_19, s12_20, s12_23, s12_24, s12_25, s12_28, am_pu_s, am_pu_n, va_rf_s, va_rf_n, Option.bind_some, true_or, or_true, eq_self, if_true, if_false, ite_self, ite_true, ite_false, ↓reduceIte, reduceCtorEq, Nat.reduceEqDiff, Nat.reduceAdd, Nat.reduceLT, Nat.reduceLeDiff, Nat.reduceMul, Nat.reduceSub, not_true_eq_false, not_false_eq_true, and_self, and_true, true_and, and_false, false_and, am_I_wI, am_I_wJ, am_J_wI, am_J_wJ, am_R_wI, am_R_wJ, am_kd_wI, am_kd_wJ, am_ln_wI, am_ln_wJ, am_ix_wI, am_ix_wJ, am_F_wI, am_F_wJ, am_I_wC, am_J_wC, am_R_wC, am_kd_wC, am_ln_wC, am_ix_wC, am_F_wC, hF, kd54, kdG hF hp, h1]
  · unfold kpr
    simp only [am_I_wI, am_I_wJ, am_J_wI, am_J_wJ, am_R_wI, am_R_wJ, am_kd_wI, am_kd_wJ, am_ln_wI, am_ln_wJ, am_ix_wI, am_ix_wJ, am_F_wI, am_F_wJ, am_I_wC, am_J_wC, am_R_wC, am_kd_wC, am_ln_wC, am_ix_wC, am_F_wC, am_pu_s, am_pu_n, va_rf_s, va_rf_n, Option.bind_some, true_or, or_true, eq_self, if_true, if_false, ite_self, ite_true, ite_false, ↓reduceIte, reduceCtorEq, Nat.reduceEqDiff, Nat.reduceAdd, Nat.reduceLT, Nat.reduceLeDiff, Nat.reduceMul, Nat.reduceSub, not_true_eq_false, not_false_eq_true, and_self, and_true, true_and, and_false, false_and, e1]
  · exact ((((((am_pr.rf hF).w (by decide)).w (by decide)).w (by decide)).w (by decide)).w (by decide))
theorem m13 {X : am_X} {d : Nat} {σ : am_M} (hF : am_F σ) {n kd w k ls wo : Nat} (hn : n < 128) (hw : w < 64) (hk : k < 1000) (hl : ls ≤ 7) (hkd : kd ≤ 4) (hK : kpr σ kd w k ls wo) : ∃ σ', am_v X (d + 4) 13 [.ref (54 : Nat), .int (nI n)] σ = some (none, σ') ∧ kpr σ' kd w (k + 1) (if sRa n w = 0 then ls else sHi (sRa n w)) (wo + (
    if kd = 1 then sBits (sRa n w) + 2 * sBits (sRa n w % 8) else if kd = 2 then (if k % 2 = 0 then 2 * sBits (sRa n w) else 0) else if kd = 3 then (if sRa n w = 0 then 0 else if ls = 7 then 1 else sDf (sHi (sRa n w)) ls) else if kd = 4 then (if sRa n w = 0 then 0 else if ls = 7 then 1 else sDf (sHi (sRa n w)) ls) + (if 1 < sBits (sRa n w) then 3 else 0) else sBits (sRa n w))) ∧ am_pr nsA σ σ' := by
  obtain ⟨k0, k1, k2, k3, k4⟩ := hK
  have hr := sRa_lt (x := w) hn
  generalize hwk : (if kd = 1 then sBits (sRa n w) + 2 * sBits (sRa n w % 8) else if kd = 2 then (if k % 2 = 0 then 2 * sBits (sRa n w) else 0) else if kd = 3 then (if sRa n w = 0 then 0 else if ls = 7 then 1 else sDf (sHi (sRa n w)) ls) else if kd = 4 then (if sRa n w = 0 then 0 else if ls = 7 then 1 else sDf (sHi (sRa n w)) ls) + (if 1 < sBits (sRa n w) then 3 else 0) else sBits (sRa n w)) = wk
  have e15 := m15 (X := X) (d := d + 1) hF (kd := kd) (k := k) (cl := if sRa n w = 0 then 0 else if ls = 7 then 1 else sDf (sHi (sRa n w)) ls) hr hk k0 k2 hkd
  rw [hwk] at e15
  by_cases h0 : sRa n w = 0
  · have e0 : wHi 0 = -1 := wHi_0 rfl
    refine ⟨am_wI (am_wI σ 54 4 (nI (wo + wk))) 54 2 (nI (k + 1)), ?_, ?_, ((am_pr.rf hF).w (by decide)).w (by decide)⟩
    · rw [s13]
      rw [h0] at e15
      simp only [if_true] at e15
      have e14 := m14 (X := X) (d := d + 1) hF (n := 0) hl k3
      rw [e0] at e14
      simp only [if_true] at e14
      simp only [s13_0, s13_1, s13_2, s13_5, s13_8, s13_9, s13_10, s13_13, s13_14, s13_15, s13_16, s13_19, s13_20, s13_21, s13_22, s13_23, s13_26, s13_29, s13_30, s13_33, s13_34, s13_35, s13_38, s13_39, s13_40, s13_43, s13_44, s13_45, s13_48, s13_49, s13_50, s13_53, am_pu_s, am_pu_n, va_rf_s, va_rf_n, Option.bind_some, true_or, or_true, eq_self, if_true, if_false, ite_self, ite_true, ite_false, ↓reduceIte, reduceCtorEq, Nat.reduceEqDiff, Nat.reduceAdd, Nat.reduceLT, Nat.reduceLeDiff, Nat.reduceMul, Nat.reduceSub, not_true_eq_false, not_false_eq_true, and_self, and_true, true_and, and_false, false_and, am_I_wI, am_I_wJ, am_J_wI, am_J_wJ, am_R_wI, am_R_wJ, am_kd_wI, am_kd_wJ, am_ln_wI, am_ln_wJ, am_ix_wI, am_ix_wJ, am_F_wI, am_F_wJ, am_I_wC, am_J_wC, am_R_wC, am_kd_wC, am_ln_wC, am_ix_wC, am_F_wC, hF, kd54, k0, k1, k2, k4, m121 hn hw, m122, wHiC_n 0 (by decide), h0, e14, e15, nI_add, e0]
    · unfold kpr
      simp only [am_I_wI, am_I_wJ, am_J_wI, am_J_wJ, am_R_wI, am_R_wJ, am_kd_wI, am_kd_wJ, am_ln_wI, am_ln_wJ, am_ix_wI, am_ix_wJ, am_F_wI, am_F_wJ, am_I_wC, am_J_wC, am_R_wC, am_kd_wC, am_ln_wC, am_ix_wC, am_F_wC, am_pu_s, am_pu_n, va_rf_s, va_rf_n, Option.bind_some, true_or, or_true, eq_self, if_true, if_false, ite_self, ite_true, ite_false, ↓reduceIte, reduceCtorEq, Nat.reduceEqDiff, Nat.reduceAdd, Nat.reduceLT, Nat.reduceLeDiff, Nat.reduceMul, Nat.reduceSub, not_true_eq_false, not_false_eq_true, and_self, and_true, true_and, and_false, false_and, k0, k1, k2, k3, h0]
  · have e0 := wHi_s h0
    have hh := sHi_lt (sRa n w)
    have e1 : (nI (sHi (sRa n w)) = -1) = False := nI_m1 (by omega)
    refine ⟨am_wI (am_wI (am_wI σ 54 4 (nI (wo + wk))) 54 2 (nI (k + 1))) 54 3 (nI (sHi (sRa n w))), ?_, ?_, (((am_pr.rf hF).w (by decide)).w (by decide)).w (by decide)⟩
    · rw [s13]
      have e14 := m14 (X := X) (d := d + 1) hF (n := sRa n w) hl k3
      rw [e0] at e14
      simp only [s13_0, s13_1, s13_2, s13_5, s13_8, s13_9, s13_10, s13_13, s13_14, s13_15, s13_16, s13_19, s13_20, s13_21, s13_22, s13_23, s13_26, s13_29, s13_30, s13_33, s13_34, s13_35, s13_38, s13_39, s13_40, s13_43, s13_44, s13_45, s13_48, s13_49, s13_50, s13_53, am_pu_s, am_pu_n, va_rf_s, va_rf_n, Option.bind_some, true_or, or_true, eq_self, if_true, if_false, ite_self, ite_true, ite_false, ↓reduceIte, reduceCtorEq, Nat.reduceEqDiff, Nat.reduceAdd, Nat.reduceLT, Nat.reduceLeDiff, Nat.reduceMul, Nat.reduceSub, not_true_eq_false, not_false_eq_true, and_self, and_true, true_and, and_false, false_and, am_I_wI, am_I_wJ, am_J_wI, am_J_wJ, am_R_wI, am_R_wJ, am_kd_wI, am_kd_wJ, am_ln_wI, am_ln_wJ, am_ix_wI, am_ix_wJ, am_F_wI, am_F_wJ, am_I_wC, am_J_wC, am_R_wC, am_kd_wC, am_ln_wC, am_ix_wC, am_F_wC, hF, kd54, k0, k1, k2, k4, m121 hn hw, m122, wHiC_n _ hr, e14, e15, nI_add, e0, e1]
    · unfold kpr
      have e2 : wLs (sHi (sRa n w)) = nI (sHi (sRa n w)) := if_neg (by omega)
      simp only [am_I_wI, am_I_wJ, am_J_wI, am_J_wJ, am_R_wI, am_R_wJ, am_kd_wI, am_kd_wJ, am_ln_wI, am_ln_wJ, am_ix_wI, am_ix_wJ, am_F_wI, am_F_wJ, am_I_wC, am_J_wC, am_R_wC, am_kd_wC, am_ln_wC, am_ix_wC, am_F_wC, am_pu_s, am_pu_n, va_rf_s, va_rf_n, Option.bind_some, true_or, or_true, eq_self, if_true, if_false, ite_self, ite_true, ite_false, ↓reduceIte, reduceCtorEq, Nat.reduceEqDiff, Nat.reduceAdd, Nat.reduceLT, Nat.reduceLeDiff, Nat.reduceMul, Nat.reduceSub, not_true_eq_false, not_false_eq_true, and_self, and_true, true_and, and_false, false_and, k0, k1, h0, e2]

theorem am_pr_I {σ σ' : am_M} (h : am_pr nsA σ σ') {o k : Nat} (hs : o < 3 ∨ (8 ≤ o ∧ o < 54)) : am_I σ' o k = am_I σ o k := h.A_C.2.1 o k (nsC_in hs)
theorem isTu_in {o : Nat} (h : isTu o) {a : Nat} (h1 : o ≤ a) (h2 : a ≤ o + 2) : a < 3 ∨ (8 ≤ a ∧ a < 54) := by
  rcases isTu_8 h with rfl | rfl | rfl | rfl | rfl | rfl | rfl | rfl <;> omega
theorem isGa_in {o : Nat} (h : isGa o) : o < 3 ∨ (8 ≤ o ∧ o < 54) := by
  rcases isGa_8 h with rfl | rfl | rfl | rfl | rfl | rfl | rfl | rfl <;> omega
theorem cTun.prA {σ σ' : am_M} {o n : Nat} {B W : Nat → Nat} (h : cTun σ o n B W) (ho : isTu o) (hp : am_pr nsA σ σ') : cTun σ' o n B W := h.pr fun _ _ h1 h2 => am_pr_I hp (isTu_in ho h1 h2)
/-- the keeper hears a TUNE: one BEAT more -/
theorem k_step {X : am_X} {d : Nat} {σ : am_M} (hF : am_F σ) {n kd w k wo : Nat} {B : Nat → Nat} (hB : B k < 128) (hw : w < 64) (hk : k < 1000) (hkd : kd ≤ 4) (hn : n = B k) (hK : kpr σ kd w k (sLs B w k) wo) : ∃ σ', am_v X (d + 4) 13 [.ref (54 : Nat), .int (nI n)] σ = some (none, σ') ∧ kpr σ' kd w (k + 1) (sLs B w (k + 1)) (wo + sWo kd B w k) ∧ am_pr nsA σ σ' := by
  subst hn
  exact m13 hF hB hw hk (sLs_lt B w k) hkd hK
theorem nI_max {a b : Nat} (ha : a < 2 ^ 30) (hb : b < 2 ^ 30) : (if nI 0 < nI a - nI b then nI a - nI b else nI 0) = nI (a - b) := by
  by_cases h5 : b ≤ a
  · rw [pk_sub h5]
    by_cases h6 : 0 < a - b
    · rw [if_pos (nI_lt h6 (by omega))]
    · rw [if_neg (nI_nlt (by omega) (by omega)), show a - b = 0 by omega]
  · have h6 : ¬ nI 0 < nI a - nI b := by
      have := pk_sneg (show b < 2 ^ 30 by omega) (show a < b by omega)
      exact Int32.not_lt.mpr (Int32.le_of_lt this)
    rw [if_neg h6, show a - b = 0 by omega]
/-- Keeper.paid -/
theorem m10 {X : am_X} {d : Nat} {σ : am_M} (hF : am_F σ) {o p n kd w g : Nat} {B W : Nat → Nat} (ho : isTu o) (hT : cTun σ o n B W) (hn : n ≤ 60) (hB : ∀ j, j < 60 → B j < 128) (hp : isGa p) (hg : g < 4) (hG : am_I σ p 0 = nI g) (h1 : am_I σ p 1 = nI kd) (hkd : kd ≤ 4) (hw : w < 64) (hW : W g ≤ 99) : ∃ σ', am_v X (d + 5) 10 [.ref (54 : Nat), .ref o, .ref p, .int (nI w)] σ = some (some (.int (nI (sW kd B w n - W g))), σ') ∧ am_pr nsA σ σ' := by
  obtain ⟨σ1, e1, hK, hp1⟩ := m12 (X := X) (d := d + 3) hF hp (w := w) h1
  have loop : ∀ m k σ1, k + m = n → am_pr nsA σ σ1 → kpr σ1 kd w k (sLs B w k) (sW kd B w k) → ∃ σ', am_w X (d + 4) 10 9 [some (.ref (54 : Nat)), some (.ref o), some (.ref p), some (.int (nI w)), some (.int (nI k))] [] σ1 = some (some (.int (nI (sW kd B w n - W g))), σ') ∧ am_pr nsA σ σ' := by
    intro m
    induction m with
    | zero =>
      intro k σ1 hk hp1 hK
      have hk : k = n := by omega
      subst hk
      have hT1 := hT.prA ho hp1
      have h2 : nI k ≤ nI k := Int32.le_refl _
      have h3 : am_I σ1 p 0 = nI g := by rw [am_pr_I hp1 (isGa_in hp)]; exact hG
      refine ⟨σ1, ?_, hp1⟩
      have h4 := sW_le kd B w k
      rw [s10_9]
      simp only [s10_0, s10_1, s10_2, s10_3, s10_6, s10_7, s10_11, s10_12, s10_15, s10_18, s10_19, s10_20, s10_22, s10_25, s10_28, s10_31, s10_34, s10_35, s10_36, s10_39, s10_40, s10_41, s10_44, s10_45, s10_48, am_pu_s, am_pu_n, va_rf_s, va_rf_n, Option.bind_some, true_or, or_true, eq_self, if_true, if_false, ite_self, ite_true, ite_false, ↓reduceIte, reduceCtorEq, Nat.reduceEqDiff, Nat.reduceAdd, Nat.reduceLT, Nat.reduceLeDiff, Nat.reduceMul, Nat.reduceSub, not_true_eq_false, not_false_eq_true, and_self, and_true, true_and, and_false, false_and, hp1.1, kdT hp1.1 ho, hT1.1, h2, kd54, hK.2.2.2.2, m52 hp1.1 ho hT1 hp hg h3, m217]
      rw [nI_max (by omega) (by omega)]
    | succ m ih =>
      intro k σ1 hk hp1 hK
      have hT1 := hT.prA ho hp1
      have h2 : ¬ nI n ≤ nI k := nI_ge (by omega) (by omega)
      have h3 : k < n := by omega
      obtain ⟨σ2, e2, hK2, hp2⟩ := k_step (X := X) (d := d) hp1.1 (B := B) (n := B k) (hB k (by omega)) hw (by omega) hkd rfl hK
      rw [s10_9]
      simp only [s10_0, s10_1, s10_2, s10_3, s10_6, s10_7, s10_11, s10_12, s10_15, s10_18, s10_19, s10_20, s10_22, s10_25, s10_28, s10_31, s10_34, s10_35, s10_36, s10_39, s10_40, s10_41, s10_44, s10_45, s10_48, am_pu_s, am_pu_n, va_rf_s, va_rf_n, Option.bind_some, true_or, or_true, eq_self, if_true, if_false, ite_self, ite_true, ite_false, ↓reduceIte, reduceCtorEq, Nat.reduceEqDiff, Nat.reduceAdd, Nat.reduceLT, Nat.reduceLeDiff, Nat.reduceMul, Nat.reduceSub, not_true_eq_false, not_false_eq_true, and_self, and_true, true_and, and_false, false_and, hp1.1, kdT hp1.1 ho, hT1.1, h2, kd54, m51 hp1.1 ho hT1 hn (show k ≤ 60 by omega), h3, e2, nI_add]
      exact ih (k + 1) σ2 (by omega) (hp1.tr hp2) hK2
  obtain ⟨σ', e2, hp2⟩ := loop n 0 σ1 (by omega) hp1 hK
  refine ⟨σ', ?_, hp2⟩
  rw [s10]
  simp only [s10_0, s10_1, s10_2, s10_3, s10_6, s10_7, s10_11, s10_12, s10_15, s10_18, s10_19, s10_20, s10_22, s10_25, s10_28, s10_31, s10_34, s10_35, s10_36, s10_39, s10_40, s10_41, s10_44, s10_45, s10_48, am_pu_s, am_pu_n, va_rf_s, va_rf_n, Option.bind_some, true_or, or_true, eq_self, if_true, if_false, ite_self, ite_true, ite_false, ↓reduceIte, reduceCtorEq, Nat.reduceEqDiff, Nat.reduceAdd, Nat.reduceLT, Nat.reduceLeDiff, Nat.reduceMul, Nat.reduceSub, not_true_eq_false, not_false_eq_true, and_self, and_true, true_and, and_false, false_and, hF, kd54, e1]
  exact e2

/-- SHORT -/
def wSh (f : Nat → Nat) (T : Nat) : Nat → Nat → Int32
  | _, 0 => -1
  | k, m + 1 => if T ≤ f k then nI k else wSh f T (k + 1) m
/-- Keeper.fewestBeats -/
theorem m11 {X : am_X} {d : Nat} {σ : am_M} (hF : am_F σ) {o p n kd w g T : Nat} {B W : Nat → Nat} (ho : isTu o) (hT : cTun σ o n B W) (hn : n ≤ 60) (hB : ∀ j, j < 60 → B j < 128) (hp : isGa p) (hg : g < 4) (hG : am_I σ p 0 = nI g) (h1 : am_I σ p 1 = nI kd) (h2t : am_I σ p 2 = nI T) (h3w : am_I σ p 3 = nI w) (hkd : kd ≤ 4) (hw : w < 64) (hW : W g ≤ 99) (hTT : T ≤ 99) : ∃ σ', am_v X (d + 5) 11 [.ref (54 : Nat), .ref o, .ref p] σ = some (some (.int (wSh (fun k => sW kd B w k - W g) T 0 (n + 1))), σ') ∧ am_pr nsA σ σ' := by
  obtain ⟨σ1, e1, hK, hp1⟩ := m12 (X := X) (d := d + 3) hF hp (w := w) h1
  have hkey : ∀ k, k ≤ n → (nI (sW kd B w k) - nI (W g)) = (nI (sW kd B w k) - nI (W g)) := fun _ _ => rfl
  have loop : ∀ m k σ1, k + m = n + 1 → am_pr nsA σ σ1 → kpr σ1 kd w k (if k ≤ n then sLs B w k else 7) (sW kd B w k) ∨ k = n + 1 → am_pr nsA σ σ1 → ∃ σ', am_w X (d + 4) 11 18 [some (.ref (54 : Nat)), some (.ref o), some (.ref p), some (.int (nI (W g))), some (.int (nI k))] [] σ1 = some (some (.int (wSh (fun k => sW kd B w k - W g) T k m)), σ') ∧ am_pr nsA σ σ' := by
    intro m
    induction m with
    | zero =>
      intro k σ1 hk hp1 hK _
      have hT1 := hT.prA ho hp1
      have h2 : nI n < nI k := nI_lt (by omega) (by omega)
      refine ⟨σ1, ?_, hp1⟩
      rw [s11_18]
      simp only [s11_0, s11_1, s11_2, s11_5, s11_6, s11_7, s11_8, s11_9, s11_12, s11_15, s11_16, s11_20, s11_21, s11_24, s11_27, s11_28, s11_29, s11_32, s11_33, s11_34, s11_37, s11_38, s11_41, s11_44, s11_46, s11_47, s11_48, s11_49, s11_51, s11_54, s11_57, s11_60, s11_63, s11_64, am_pu_s, am_pu_n, va_rf_s, va_rf_n, Option.bind_some, true_or, or_true, eq_self, if_true, if_false, ite_self, ite_true, ite_false, ↓reduceIte, reduceCtorEq, Nat.reduceEqDiff, Nat.reduceAdd, Nat.reduceLT, Nat.reduceLeDiff, Nat.reduceMul, Nat.reduceSub, not_true_eq_false, not_false_eq_true, and_self, and_true, true_and, and_false, false_and, hp1.1, kdT hp1.1 ho, hT1.1, h2]
      rfl
    | succ m ih =>
      intro k σ1 hk hp1 hK _
      have hT1 := hT.prA ho hp1
      have hkn : k ≤ n := by omega
      have h2 : ¬ nI n < nI k := nI_nlt (by omega) (by omega)
      have hK1 : kpr σ1 kd w k (sLs B w k) (sW kd B w k) := by
        rcases hK with hK | hK
        · rw [if_pos hkn] at hK
          exact hK
        · omega
      have h4 := sW_le kd B w k
      have h5 : am_I σ1 p 2 = nI T := by rw [am_pr_I hp1 (isGa_in hp)]; exact h2t
      have h6 := nI_max (show sW kd B w k < 2 ^ 30 by omega) (show W g < 2 ^ 30 by omega)
      have h7 : (nI (sW kd B w k - W g) < nI T) = (sW kd B w k - W g < T) := nI_LT (by omega) (by omega)
      rw [s11_18]
      by_cases h8 : T ≤ sW kd B w k - W g
      · have h9 : ¬ sW kd B w k - W g < T := by omega
        refine ⟨σ1, ?_, hp1⟩
        simp only [s11_0, s11_1, s11_2, s11_5, s11_6, s11_7, s11_8, s11_9, s11_12, s11_15, s11_16, s11_20, s11_21, s11_24, s11_27, s11_28, s11_29, s11_32, s11_33, s11_34, s11_37, s11_38, s11_41, s11_44, s11_46, s11_47, s11_48, s11_49, s11_51, s11_54, s11_57, s11_60, s11_63, s11_64, am_pu_s, am_pu_n, va_rf_s, va_rf_n, Option.bind_some, true_or, or_true, eq_self, if_true, if_false, ite_self, ite_true, ite_false, ↓reduceIte, reduceCtorEq, Nat.reduceEqDiff, Nat.reduceAdd, Nat.reduceLT, Nat.reduceLeDiff, Nat.reduceMul, Nat.reduceSub, not_true_eq_false, not_false_eq_true, and_self, and_true, true_and, and_false, false_and, hp1.1, kdT hp1.1 ho, kdG hp1.1 hp, hT1.1, h2, kd54, hK1.2.2.2.2, m217, h6, h5, h7, h9]
        rw [wSh, if_pos h8]
      · have h9 : sW kd B w k - W g < T := by omega
        obtain ⟨σ2, e2, hK2, hp2⟩ := k_step (X := X) (d := d) hp1.1 (B := fun j => if j < n then B j else 0) (n := if k < n then B k else 0) (k := k) (w := w) (wo := sW kd B w k) (kd := kd) (by
            show (if k < n then B k else 0) < 128
            split
            · exact hB k (by omega)
            · omega) hw (by omega) hkd rfl (by
            have : ∀ j, j ≤ n → sLs (fun j => if j < n then B j else 0) w j = sLs B w j := by
              intro j
              induction j with
              | zero => intro _; rfl
              | succ j ihj =>
                intro hj
                unfold sLs
                rw [if_pos (show j < n by omega), ihj (by omega)]
            rw [this k hkn]
            exact hK1)
        have e2b : am_v X (d + 4) 13 [.ref (54 : Nat), .int (if k < n then nI (B k) else nI 0)] σ1 = some (none, σ2) := by
          rw [← e2]
          by_cases hkk : k < n
          · rw [if_pos hkk, if_pos hkk]
          · rw [if_neg hkk, if_neg hkk]
        simp only [s11_0, s11_1, s11_2, s11_5, s11_6, s11_7, s11_8, s11_9, s11_12, s11_15, s11_16, s11_20, s11_21, s11_24, s11_27, s11_28, s11_29, s11_32, s11_33, s11_34, s11_37, s11_38, s11_41, s11_44, s11_46, s11_47, s11_48, s11_49, s11_51, s11_54, s11_57, s11_60, s11_63, s11_64, am_pu_s, am_pu_n, va_rf_s, va_rf_n, Option.bind_some, true_or, or_true, eq_self, if_true, if_false, ite_self, ite_true, ite_false, ↓reduceIte, reduceCtorEq, Nat.reduceEqDiff, Nat.reduceAdd, Nat.reduceLT, Nat.reduceLeDiff, Nat.reduceMul, Nat.reduceSub, not_true_eq_false, not_false_eq_true, and_self, and_true, true_and, and_false, false_and, hp1.1, kdT hp1.1 ho, kdG hp1.1 hp, hT1.1, h2, kd54, hK1.2.2.2.2, m217, h6, h5, h7, h9, m51 hp1.1 ho hT1 hn (show k ≤ 60 by omega), e2b, nI_add]
        have hs : wSh (fun k => sW kd B w k - W g) T k (m + 1) = wSh (fun k => sW kd B w k - W g) T (k + 1) m := by
          show (if _ then _ else _) = _
          rw [if_neg h8]
        rw [hs]
        refine ih (k + 1) σ2 (by omega) (hp1.tr hp2) ?_ (hp1.tr hp2)
        by_cases hkk : k < n
        · left
          rw [if_pos (show k + 1 ≤ n by omega)]
          have e3 : sLs (fun j => if j < n then B j else 0) w (k + 1) = sLs B w (k + 1) := by
            have : ∀ j, j ≤ n → sLs (fun j => if j < n then B j else 0) w j = sLs B w j := by
              intro j
              induction j with
              | zero => intro _; rfl
              | succ j ihj =>
                intro hj
                unfold sLs
                rw [if_pos (show j < n by omega), ihj (by omega)]
            exact this (k + 1) (by omega)
          have e4 : sWo kd (fun j => if j < n then B j else 0) w k = sWo kd B w k := by
            have : ∀ j, j ≤ n → sLs (fun j => if j < n then B j else 0) w j = sLs B w j := by
              intro j
              induction j with
              | zero => intro _; rfl
              | succ j ihj =>
                intro hj
                unfold sLs
                rw [if_pos (show j < n by omega), ihj (by omega)]
            unfold sWo sCl
            have hb : (fun j => if j < n then B j else 0) k = B k := if_pos hkk
            rw [this k hkn, hb]
          rw [e3, e4] at hK2
          exact hK2
        · right
          omega
  have hG1 : am_I σ1 p 0 = nI g := by rw [am_pr_I hp1 (isGa_in hp)]; exact hG
  obtain ⟨σ', e2, hp2⟩ := loop (n + 1) 0 σ1 (by omega) hp1 (Or.inl hK) hp1
  refine ⟨σ', ?_, hp2⟩
  rw [s11]
  simp only [s11_0, s11_1, s11_2, s11_5, s11_6, s11_7, s11_8, s11_9, s11_12, s11_15, s11_16, s11_20, s11_21, s11_24, s11_27, s11_28, s11_29, s11_32, s11_33, s11_34, s11_37, s11_38, s11_41, s11_44, s11_46, s11_47, s11_48, s11_49, s11_51, s11_54, s11_57, s11_60, s11_63, s11_64, am_pu_s, am_pu_n, va_rf_s, va_rf_n, Option.bind_some, true_or, or_true, eq_self, if_true, if_false, ite_self, ite_true, ite_false, ↓reduceIte, reduceCtorEq, Nat.reduceEqDiff, Nat.reduceAdd, Nat.reduceLT, Nat.reduceLeDiff, Nat.reduceMul, Nat.reduceSub, not_true_eq_false, not_false_eq_true, and_self, and_true, true_and, and_false, false_and, hF, kd54, kdG hF hp, kdT hF ho, m52 hF ho hT hp hg hG, h3w, e1]
  exact e2
