/-! what a TUNE is: notes, rests, chords, highest, period, mirror -/
def sMax (f : Nat → Nat) : Nat → Nat
  | 0 => 0
  | n + 1 => max (sMax f n) (f n)
/-- a highest note, and one more; 0: none -/
def sHh (n : Nat) : Nat := if n = 0 then 0 else sHi n + 1
def wM (n : Nat) : Int32 := if n = 0 then -1 else nI (n - 1)
theorem sHh_le (n : Nat) : sHh n ≤ 7 := by
  have := sHi_lt n
  unfold sHh
  split <;> omega
theorem sMax_le {f : Nat → Nat} {c : Nat} (h : ∀ i, f i ≤ c) : ∀ n, sMax f n ≤ c
  | 0 => Nat.zero_le _
  | n + 1 => by
    have h1 := sMax_le h n
    have h2 := h n
    unfold sMax
    omega
theorem wM_max : ∀ a, a < 8 → ∀ b, b < 8 → (if wM a < wM b then wM b else wM a) = wM (max a b) := by decide +kernel
theorem wHi_M : ∀ n, n < 128 → wHi n = wM (sHh n) := by decide +kernel
def sOr (B : Nat → Nat) : Nat → Nat
  | 0 => 0
  | n + 1 => sOr B n ||| B n
theorem sOr_lt {B : Nat → Nat} : ∀ n, (∀ j, j < n → B j < 128) → sOr B n < 128
  | 0, _ => show 0 < 128 by decide
  | n + 1, h => Nat.or_lt_two_pow (n := 7) (sOr_lt n fun j hj => h j (by omega)) (h n (by omega))
theorem sHh_or : ∀ a, a < 128 → ∀ b, b < 128 → sHh (a ||| b) = max (sHh a) (sHh b) := by decide +kernel
theorem nI_or : ∀ a, a < 128 → ∀ b, b < 128 → nI a ||| nI b = nI (a ||| b) := by decide +kernel
theorem sHh_sOr {B : Nat → Nat} : ∀ n, (∀ j, j < n → B j < 128) → sHh (sOr B n) = sMax (fun i => sHh (B i)) n
  | 0, _ => show sHh 0 = 0 by decide
  | n + 1, h => by
    unfold sOr sMax
    rw [sHh_or _ (sOr_lt n fun j hj => h j (by omega)) _ (h n (by omega)), sHh_sOr n fun j hj => h j (by omega)]
theorem sBits0 : ∀ n, n < 128 → (sBits n = 0 ↔ n = 0) := by decide +kernel
section TU
variable {X : am_X} {d n o : Nat} {σ : am_M} {B W : Nat → Nat}
theorem m55 (hF : am_F σ) (ho : isTu o) (h : cTun σ o n B W) (hn : n ≤ 60) (hB : ∀ j, j < 60 → B j < 128) : am_v X (d + 2) 55 [.ref o] σ = some (some (.int (nI (sSum (fun j => sBits (B j)) n))), σ) := by
  have h1 := am_it0 (fun i s => am_w X (d + 1) 55 4 [some (.ref o), some (.int (nI s)), some (.int (nI i))] [] σ) (fun j s => s + sBits (B j)) n (fun i s hi => by
    have h1 : ¬ nI n ≤ nI i := nI_ge hi (by omega)
    have hi6 : i < 60 := by omega
    try dsimp only
    rw [s55_4]
    simp only [s55_0, s55_1, s55_2, s55_3, s55_5, s55_6, s55_9, s55_12, s55_13, s55_14, s55_17, s55_18, s55_19, s55_22, s55_23, s55_24, s55_27, s55_30, s55_31, am_pu_s, am_pu_n, va_rf_s, va_rf_n, Option.bind_some, true_or, or_true, eq_self, if_true, if_false, ite_self, ite_true, ite_false, ↓reduceIte, reduceCtorEq, Nat.reduceEqDiff, Nat.reduceAdd, Nat.reduceLT, Nat.reduceLeDiff, Nat.reduceMul, Nat.reduceSub, not_true_eq_false, not_false_eq_true, and_self, and_true, true_and, and_false, false_and, nI_add, h1, h.1, kdT hF ho, rT0 hF ho, ixB hF ho hi6, nI_cl (show i < 2147483648 by omega), h.2.1 i hi6, m215, wBc_n _ (hB i hi6)]) 0
  rw [s55]
  simp only [s55_0, s55_1, s55_2, s55_3]
  rw [h1]
  simp only [s55_0, s55_1, s55_2, s55_3, s55_4, s55_5, s55_6, s55_9, s55_12, s55_13, s55_14, s55_17, s55_18, s55_19, s55_22, s55_23, s55_24, s55_27, s55_30, s55_31, am_pu_s, am_pu_n, va_rf_s, va_rf_n, Option.bind_some, true_or, or_true, eq_self, if_true, if_false, ite_self, ite_true, ite_false, ↓reduceIte, reduceCtorEq, Nat.reduceEqDiff, Nat.reduceAdd, Nat.reduceLT, Nat.reduceLeDiff, Nat.reduceMul, Nat.reduceSub, not_true_eq_false, not_false_eq_true, and_self, and_true, true_and, and_false, false_and, kdT hF ho, h.1, Int32.le_refl, am_fd_sum]
theorem m56 (hF : am_F σ) (ho : isTu o) (h : cTun σ o n B W) (hn : n ≤ 60) (hB : ∀ j, j < 60 → B j < 128) {lo hi : Nat} (hlo : lo < 100) (hhi : hi < 100) : am_v X (d + 2) 56 [.ref o, .int (nI lo), .int (nI hi)] σ = some (some (.int (nI (sSum (fun j => if lo ≤ sBits (B j) ∧ sBits (B j) ≤ hi then 1 else 0) n))), σ) := by
  have loop : ∀ m k l5, k + m = n → am_w X (d + 1) 56 5 [some (.ref o), some (.int (nI lo)), some (.int (nI hi)), some (.int (nI (sSum (fun j => if lo ≤ sBits (B j) ∧ sBits (B j) ≤ hi then 1 else 0) k))), some (.int (nI k)), l5] [] σ = some (some (.int (nI (sSum (fun j => if lo ≤ sBits (B j) ∧ sBits (B j) ≤ hi then 1 else 0) n))), σ) := by
    intro m
    induction m with
    | zero =>
      intro k l5 hk
      have hk : k = n := by omega
      subst hk
      rw [s56_5]
      simp only [s56_0, s56_1, s56_2, s56_3, s56_7, s56_8, s56_11, s56_14, s56_15, s56_18, s56_20, s56_21, s56_24, s56_26, s56_28, s56_29, s56_32, s56_34, s56_35, s56_38, s56_41, s56_44, s56_47, s56_48, am_pu_s, am_pu_n, va_rf_s, va_rf_n, Option.bind_some, true_or, or_true, eq_self, if_true, if_false, ite_self, ite_true, ite_false, ↓reduceIte, reduceCtorEq, Nat.reduceEqDiff, Nat.reduceAdd, Nat.reduceLT, Nat.reduceLeDiff, Nat.reduceMul, Nat.reduceSub, not_true_eq_false, not_false_eq_true, and_self, and_true, true_and, and_false, false_and, kdT hF ho, h.1, Int32.le_refl]
    | succ m ih =>
      intro k l5 hk
      have h1 : ¬ nI n ≤ nI k := nI_ge (by omega) (by omega)
      have hi6 : k < 60 := by omega
      have b1 := sBits_le (B k)
      have e1 : (nI (sBits (B k)) < nI lo) = (sBits (B k) < lo) := nI_LT (by omega) (by omega)
      have e2 : (nI hi < nI (sBits (B k))) = (hi < sBits (B k)) := nI_LT (by omega) (by omega)
      have hh := ih (k + 1) (some (.int (nI (sBits (B k))))) (by omega)
      rw [s56_5]
      by_cases h2 : sBits (B k) < lo
      · rw [sSum, if_neg (by omega), Nat.add_zero] at hh
        simp only [s56_0, s56_1, s56_2, s56_3, s56_7, s56_8, s56_11, s56_14, s56_15, s56_18, s56_20, s56_21, s56_24, s56_26, s56_28, s56_29, s56_32, s56_34, s56_35, s56_38, s56_41, s56_44, s56_47, s56_48, am_pu_s, am_pu_n, va_rf_s, va_rf_n, Option.bind_some, true_or, or_true, eq_self, if_true, if_false, ite_self, ite_true, ite_false, ↓reduceIte, reduceCtorEq, Nat.reduceEqDiff, Nat.reduceAdd, Nat.reduceLT, Nat.reduceLeDiff, Nat.reduceMul, Nat.reduceSub, not_true_eq_false, not_false_eq_true, and_self, and_true, true_and, and_false, false_and, nI_add, h1, h.1, kdT hF ho, rT0 hF ho, ixB hF ho hi6, nI_cl (show k < 2147483648 by omega), h.2.1 k hi6, m215, wBc_n _ (hB k hi6), e1, e2, h2]
        exact hh
      · by_cases h3 : hi < sBits (B k)
        · rw [sSum, if_neg (by omega), Nat.add_zero] at hh
          simp only [s56_0, s56_1, s56_2, s56_3, s56_7, s56_8, s56_11, s56_14, s56_15, s56_18, s56_20, s56_21, s56_24, s56_26, s56_28, s56_29, s56_32, s56_34, s56_35, s56_38, s56_41, s56_44, s56_47, s56_48, am_pu_s, am_pu_n, va_rf_s, va_rf_n, Option.bind_some, true_or, or_true, eq_self, if_true, if_false, ite_self, ite_true, ite_false, ↓reduceIte, reduceCtorEq, Nat.reduceEqDiff, Nat.reduceAdd, Nat.reduceLT, Nat.reduceLeDiff, Nat.reduceMul, Nat.reduceSub, not_true_eq_false, not_false_eq_true, and_self, and_true, true_and, and_false, false_and, nI_add, h1, h.1, kdT hF ho, rT0 hF ho, ixB hF ho hi6, nI_cl (show k < 2147483648 by omega), h.2.1 k hi6, m215, wBc_n _ (hB k hi6), e1, e2, h2, h3]
          exact hh
        · rw [sSum, if_pos (by omega)] at hh
          simp only [s56_0, s56_1, s56_2, s56_3, s56_7, s56_8, s56_11, s56_14, s56_15, s56_18, s56_20, s56_21, s56_24, s56_26, s56_28, s56_29, s56_32, s56_34, s56_35, s56_38, s56_41, s56_44, s56_47, s56_48, am_pu_s, am_pu_n, va_rf_s, va_rf_n, Option.bind_some, true_or, or_true, eq_self, if_true, if_false, ite_self, ite_true, ite_false, ↓reduceIte, reduceCtorEq, Nat.reduceEqDiff, Nat.reduceAdd, Nat.reduceLT, Nat.reduceLeDiff, Nat.reduceMul, Nat.reduceSub, not_true_eq_false, not_false_eq_true, and_self, and_true, true_and, and_false, false_and, nI_add, h1, h.1, kdT hF ho, rT0 hF ho, ixB hF ho hi6, nI_cl (show k < 2147483648 by omega), h.2.1 k hi6, m215, wBc_n _ (hB k hi6), e1, e2, h2, h3]
          exact hh
  rw [s56]
  simp only [s56_0, s56_1, s56_2, s56_3, s56_7, s56_8, s56_11, s56_14, s56_15, s56_18, s56_20, s56_21, s56_24, s56_26, s56_28, s56_29, s56_32, s56_34, s56_35, s56_38, s56_41, s56_44, s56_47, s56_48, am_pu_s, am_pu_n, va_rf_s, va_rf_n, Option.bind_some, true_or, or_true, eq_self, if_true, if_false, ite_self, ite_true, ite_false, ↓reduceIte, reduceCtorEq, Nat.reduceEqDiff, Nat.reduceAdd, Nat.reduceLT, Nat.reduceLeDiff, Nat.reduceMul, Nat.reduceSub, not_true_eq_false, not_false_eq_true, and_self, and_true, true_and, and_false, false_and]
  exact loop n 0 none (by omega)
theorem m57 (hF : am_F σ) (ho : isTu o) (h : cTun σ o n B W) (hn : n ≤ 60) (hB : ∀ j, j < 60 → B j < 128) : am_v X (d + 2) 57 [.ref o] σ = some (some (.int (wM (sMax (fun j => sHh (B j)) n))), σ) := by
  have loop : ∀ m k, k + m = n → am_w X (d + 1) 57 4 [some (.ref o), some (.int (wM (sMax (fun j => sHh (B j)) k))), some (.int (nI k))] [] σ = some (some (.int (wM (sMax (fun j => sHh (B j)) n))), σ) := by
    intro m
    induction m with
    | zero =>
      intro k hk
      have hk : k = n := by omega
      subst hk
      rw [s57_4]
      simp only [s57_0, s57_1, s57_2, s57_3, s57_5, s57_6, s57_9, s57_12, s57_13, s57_14, s57_17, s57_18, s57_19, s57_22, s57_25, s57_26, s57_29, s57_32, s57_33, am_pu_s, am_pu_n, va_rf_s, va_rf_n, Option.bind_some, true_or, or_true, eq_self, if_true, if_false, ite_self, ite_true, ite_false, ↓reduceIte, reduceCtorEq, Nat.reduceEqDiff, Nat.reduceAdd, Nat.reduceLT, Nat.reduceLeDiff, Nat.reduceMul, Nat.reduceSub, not_true_eq_false, not_false_eq_true, and_self, and_true, true_and, and_false, false_and, kdT hF ho, h.1, Int32.le_refl]
    | succ m ih =>
      intro k hk
      have h1 : ¬ nI n ≤ nI k := nI_ge (by omega) (by omega)
      have hi6 : k < 60 := by omega
      have b1 := sHh_le (B k)
      have b2 := sMax_le (f := fun j => sHh (B j)) (fun i => sHh_le (B i)) k
      have hh := ih (k + 1) (by omega)
      rw [s57_4]
      simp only [s57_0, s57_1, s57_2, s57_3, s57_5, s57_6, s57_9, s57_12, s57_13, s57_14, s57_17, s57_18, s57_19, s57_22, s57_25, s57_26, s57_29, s57_32, s57_33, am_pu_s, am_pu_n, va_rf_s, va_rf_n, Option.bind_some, true_or, or_true, eq_self, if_true, if_false, ite_self, ite_true, ite_false, ↓reduceIte, reduceCtorEq, Nat.reduceEqDiff, Nat.reduceAdd, Nat.reduceLT, Nat.reduceLeDiff, Nat.reduceMul, Nat.reduceSub, not_true_eq_false, not_false_eq_true, and_self, and_true, true_and, and_false, false_and, nI_add, h1, h.1, kdT hF ho, rT0 hF ho, ixB hF ho hi6, nI_cl (show k < 2147483648 by omega), h.2.1 k hi6, m122, wHiC_n _ (hB k hi6), wHi_M _ (hB k hi6), m217, wM_max _ (show sMax (fun j => sHh (B j)) k < 8 by omega) _ (show sHh (B k) < 8 by omega)]
      exact hh
  rw [s57]
  simp only [s57_0, s57_1, s57_2, s57_3, s57_5, s57_6, s57_9, s57_12, s57_13, s57_14, s57_17, s57_18, s57_19, s57_22, s57_25, s57_26, s57_29, s57_32, s57_33, am_pu_s, am_pu_n, va_rf_s, va_rf_n, Option.bind_some, true_or, or_true, eq_self, if_true, if_false, ite_self, ite_true, ite_false, ↓reduceIte, reduceCtorEq, Nat.reduceEqDiff, Nat.reduceAdd, Nat.reduceLT, Nat.reduceLeDiff, Nat.reduceMul, Nat.reduceSub, not_true_eq_false, not_false_eq_true, and_self, and_true, true_and, and_false, false_and]
  exact loop n 0 (by omega)
/-- the BEATS from p on are those from the start -/
abbrev sSf (B : Nat → Nat) (n p : Nat) : Prop := ∀ i, i < n - p → B i = B (i + p)
theorem m59 (hF : am_F σ) (ho : isTu o) (h : cTun σ o n B W) (hn : n ≤ 60) (hB : ∀ j, j < 60 → B j < 128) {p : Nat} (hp : p ≤ n) : am_v X (d + 1) 59 [.ref o, .int (nI p)] σ = some (some (.int (bI (sSf B n p))), σ) := by
  have loop : ∀ m k, k + m = n - p → (∀ i, i < k → B i = B (i + p)) → am_w X d 59 2 [some (.ref o), some (.int (nI p)), some (.int (nI k))] [] σ = some (some (.int (bI (sSf B n p))), σ) := by
    intro m
    induction m with
    | zero =>
      intro k hk hb
      have hk : k = n - p := by omega
      subst hk
      rw [s59_2, bI_t (show sSf B n p from hb)]
      simp only [s59_0, s59_1, s59_3, s59_4, s59_7, s59_8, s59_9, s59_12, s59_13, s59_16, s59_17, s59_18, s59_19, s59_22, s59_23, s59_24, s59_25, s59_26, s59_29, s59_30, s59_31, s59_34, s59_37, s59_38, am_pu_s, am_pu_n, va_rf_s, va_rf_n, Option.bind_some, true_or, or_true, eq_self, if_true, if_false, ite_self, ite_true, ite_false, ↓reduceIte, reduceCtorEq, Nat.reduceEqDiff, Nat.reduceAdd, Nat.reduceLT, Nat.reduceLeDiff, Nat.reduceMul, Nat.reduceSub, not_true_eq_false, not_false_eq_true, and_self, and_true, true_and, and_false, false_and, kdT hF ho, h.1, Int32.le_refl, pk_sub hp]
    | succ m ih =>
      intro k hk hb
      have h1 : ¬ nI (n - p) ≤ nI k := nI_ge (by omega) (by omega)
      have hi6 : k < 60 := by omega
      have hi7 : k + p < 60 := by omega
      have e1 : (nI (B k) = nI (B (k + p))) = (B k = B (k + p)) := nI_EQ (by have := hB k hi6; omega) (by have := hB (k + p) hi7; omega)
      rw [s59_2]
      by_cases h2 : B k = B (k + p)
      · simp only [s59_0, s59_1, s59_3, s59_4, s59_7, s59_8, s59_9, s59_12, s59_13, s59_16, s59_17, s59_18, s59_19, s59_22, s59_23, s59_24, s59_25, s59_26, s59_29, s59_30, s59_31, s59_34, s59_37, s59_38, am_pu_s, am_pu_n, va_rf_s, va_rf_n, Option.bind_some, true_or, or_true, eq_self, if_true, if_false, ite_self, ite_true, ite_false, ↓reduceIte, reduceCtorEq, Nat.reduceEqDiff, Nat.reduceAdd, Nat.reduceLT, Nat.reduceLeDiff, Nat.reduceMul, Nat.reduceSub, not_true_eq_false, not_false_eq_true, and_self, and_true, true_and, and_false, false_and, nI_add, h1, h.1, kdT hF ho, rT0 hF ho, pk_sub hp, ixB hF ho hi6, ixB hF ho hi7, nI_cl (show k < 2147483648 by omega), nI_cl (show k + p < 2147483648 by omega), h.2.1 k hi6, h.2.1 (k + p) hi7, e1, h2]
        exact ih (k + 1) (by omega) (fun i hi => by
          by_cases h3 : i = k
          · rw [h3]; exact h2
          · exact hb i (by omega))
      · rw [bI_f (show ¬ sSf B n p from fun q => h2 (q k (by omega)))]
        simp only [s59_0, s59_1, s59_3, s59_4, s59_7, s59_8, s59_9, s59_12, s59_13, s59_16, s59_17, s59_18, s59_19, s59_22, s59_23, s59_24, s59_25, s59_26, s59_29, s59_30, s59_31, s59_34, s59_37, s59_38, am_pu_s, am_pu_n, va_rf_s, va_rf_n, Option.bind_some, true_or, or_true, eq_self, if_true, if_false, ite_self, ite_true, ite_false, ↓reduceIte, reduceCtorEq, Nat.reduceEqDiff, Nat.reduceAdd, Nat.reduceLT, Nat.reduceLeDiff, Nat.reduceMul, Nat.reduceSub, not_true_eq_false, not_false_eq_true, and_self, and_true, true_and, and_false, false_and, nI_add, h1, h.1, kdT hF ho, rT0 hF ho, pk_sub hp, ixB hF ho hi6, ixB hF ho hi7, nI_cl (show k < 2147483648 by omega), nI_cl (show k + p < 2147483648 by omega), h.2.1 k hi6, h.2.1 (k + p) hi7, e1, h2]
  rw [s59]
  simp only [s59_0, s59_1, s59_3, s59_4, s59_7, s59_8, s59_9, s59_12, s59_13, s59_16, s59_17, s59_18, s59_19, s59_22, s59_23, s59_24, s59_25, s59_26, s59_29, s59_30, s59_31, s59_34, s59_37, s59_38, am_pu_s, am_pu_n, va_rf_s, va_rf_n, Option.bind_some, true_or, or_true, eq_self, if_true, if_false, ite_self, ite_true, ite_false, ↓reduceIte, reduceCtorEq, Nat.reduceEqDiff, Nat.reduceAdd, Nat.reduceLT, Nat.reduceLeDiff, Nat.reduceMul, Nat.reduceSub, not_true_eq_false, not_false_eq_true, and_self, and_true, true_and, and_false, false_and]
  exact loop (n - p) 0 (by omega) (fun i hi => absurd hi (by omega))
def sPer (B : Nat → Nat) (n : Nat) : Nat → Nat → Nat
  | _, 0 => n
  | p, m + 1 => if sSf B n p then p else sPer B n (p + 1) m
theorem m58 (hF : am_F σ) (ho : isTu o) (h : cTun σ o n B W) (hn : n ≤ 60) (h0 : 0 < n) (hB : ∀ j, j < 60 → B j < 128) : am_v X (d + 2) 58 [.ref o] σ = some (some (.int (nI (sPer B n 1 (n - 1)))), σ) := by
  have loop : ∀ m k, k + m = n → am_w X (d + 1) 58 2 [some (.ref o), some (.int (nI k))] [] σ = some (some (.int (nI (sPer B n k m))), σ) := by
    intro m
    induction m with
    | zero =>
      intro k hk
      have hk : k = n := by omega
      subst hk
      rw [s58_2]
      simp only [s58_0, s58_1, s58_3, s58_4, s58_7, s58_10, s58_11, s58_12, s58_15, s58_18, s58_19, s58_20, s58_23, s58_26, s58_27, s58_30, am_pu_s, am_pu_n, va_rf_s, va_rf_n, Option.bind_some, true_or, or_true, eq_self, if_true, if_false, ite_self, ite_true, ite_false, ↓reduceIte, reduceCtorEq, Nat.reduceEqDiff, Nat.reduceAdd, Nat.reduceLT, Nat.reduceLeDiff, Nat.reduceMul, Nat.reduceSub, not_true_eq_false, not_false_eq_true, and_self, and_true, true_and, and_false, false_and, kdT hF ho, h.1, Int32.le_refl]
      rfl
    | succ m ih =>
      intro k hk
      have h1 : ¬ nI n ≤ nI k := nI_ge (by omega) (by omega)
      have m1 := m59 (X := X) (d := d) hF ho h hn hB (show k ≤ n by omega)
      rw [s58_2]
      by_cases h2 : sSf B n k
      · rw [bI_t h2] at m1
        rw [sPer, if_pos h2]
        simp only [s58_0, s58_1, s58_3, s58_4, s58_7, s58_10, s58_11, s58_12, s58_15, s58_18, s58_19, s58_20, s58_23, s58_26, s58_27, s58_30, am_pu_s, am_pu_n, va_rf_s, va_rf_n, Option.bind_some, true_or, or_true, eq_self, if_true, if_false, ite_self, ite_true, ite_false, ↓reduceIte, reduceCtorEq, Nat.reduceEqDiff, Nat.reduceAdd, Nat.reduceLT, Nat.reduceLeDiff, Nat.reduceMul, Nat.reduceSub, not_true_eq_false, not_false_eq_true, and_self, and_true, true_and, and_false, false_and, nI_add, nI_10, h1, h.1, kdT hF ho, m1]
      · rw [bI_f h2] at m1
        rw [sPer, if_neg h2]
        simp only [s58_0, s58_1, s58_3, s58_4, s58_7, s58_10, s58_11, s58_12, s58_15, s58_18, s58_19, s58_20, s58_23, s58_26, s58_27, s58_30, am_pu_s, am_pu_n, va_rf_s, va_rf_n, Option.bind_some, true_or, or_true, eq_self, if_true, if_false, ite_self, ite_true, ite_false, ↓reduceIte, reduceCtorEq, Nat.reduceEqDiff, Nat.reduceAdd, Nat.reduceLT, Nat.reduceLeDiff, Nat.reduceMul, Nat.reduceSub, not_true_eq_false, not_false_eq_true, and_self, and_true, true_and, and_false, false_and, nI_add, h1, h.1, kdT hF ho, m1]
        exact ih (k + 1) (by omega)
  rw [s58]
  simp only [s58_0, s58_1, s58_3, s58_4, s58_7, s58_10, s58_11, s58_12, s58_15, s58_18, s58_19, s58_20, s58_23, s58_26, s58_27, s58_30, am_pu_s, am_pu_n, va_rf_s, va_rf_n, Option.bind_some, true_or, or_true, eq_self, if_true, if_false, ite_self, ite_true, ite_false, ↓reduceIte, reduceCtorEq, Nat.reduceEqDiff, Nat.reduceAdd, Nat.reduceLT, Nat.reduceLeDiff, Nat.reduceMul, Nat.reduceSub, not_true_eq_false, not_false_eq_true, and_self, and_true, true_and, and_false, false_and]
  exact loop (n - 1) 1 (by omega)
abbrev sMi (B : Nat → Nat) (n : Nat) : Prop := ∀ i, i < n → B i = B (n - 1 - i)
theorem m60 (hF : am_F σ) (ho : isTu o) (h : cTun σ o n B W) (hn : n ≤ 60) (h0 : 0 < n) (hB : ∀ j, j < 60 → B j < 128) : am_v X (d + 1) 60 [.ref o] σ = some (some (.int (bI (sMi B n))), σ) := by
  have loop : ∀ m k, k + m = n → 2 * k ≤ n → (∀ i, i < k → B i = B (n - 1 - i)) → am_w X d 60 9 [some (.ref o), some (.int (nI k)), some (.int (nI (n - 1 - k)))] [] σ = some (some (.int (bI (sMi B n))), σ) := by
    intro m
    induction m with
    | zero =>
      intro k hk h2 hb
      omega
    | succ m ih =>
      intro k hk h2 hb
      rw [s60_9]
      by_cases h3 : n - 1 - k ≤ k
      · have e1 : nI (n - 1 - k) ≤ nI k := nI_le h3 (by omega)
        rw [bI_t (show sMi B n from fun i hi => by
          by_cases h4 : i < k
          · exact hb i h4
          · by_cases h5 : n - 1 - i < k
            · have := hb (n - 1 - i) h5
              rw [show n - 1 - (n - 1 - i) = i by omega] at this
              exact this.symm
            · rw [show n - 1 - i = i by omega])]
        simp only [s60_0, s60_1, s60_2, s60_3, s60_6, s60_7, s60_8, s60_10, s60_11, s60_14, s60_15, s60_18, s60_19, s60_20, s60_21, s60_24, s60_25, s60_26, s60_29, s60_30, s60_31, s60_34, s60_37, s60_40, s60_41, am_pu_s, am_pu_n, va_rf_s, va_rf_n, Option.bind_some, true_or, or_true, eq_self, if_true, if_false, ite_self, ite_true, ite_false, ↓reduceIte, reduceCtorEq, Nat.reduceEqDiff, Nat.reduceAdd, Nat.reduceLT, Nat.reduceLeDiff, Nat.reduceMul, Nat.reduceSub, not_true_eq_false, not_false_eq_true, and_self, and_true, true_and, and_false, false_and, e1]
      · have e1 : ¬ nI (n - 1 - k) ≤ nI k := nI_ge (by omega) (by omega)
        have hi6 : k < 60 := by omega
        have hi7 : n - 1 - k < 60 := by omega
        have e2 : (nI (B k) = nI (B (n - 1 - k))) = (B k = B (n - 1 - k)) := nI_EQ (by have := hB k hi6; omega) (by have := hB (n - 1 - k) hi7; omega)
        by_cases h4 : B k = B (n - 1 - k)
        · have e3 : nI (n - 1 - k) + -1 = nI (n - 1 - (k + 1)) := by
            rw [show n - 1 - k = n - 1 - (k + 1) + 1 by omega]
            exact nI_pm _
          simp only [s60_0, s60_1, s60_2, s60_3, s60_6, s60_7, s60_8, s60_10, s60_11, s60_14, s60_15, s60_18, s60_19, s60_20, s60_21, s60_24, s60_25, s60_26, s60_29, s60_30, s60_31, s60_34, s60_37, s60_40, s60_41, am_pu_s, am_pu_n, va_rf_s, va_rf_n, Option.bind_some, true_or, or_true, eq_self, if_true, if_false, ite_self, ite_true, ite_false, ↓reduceIte, reduceCtorEq, Nat.reduceEqDiff, Nat.reduceAdd, Nat.reduceLT, Nat.reduceLeDiff, Nat.reduceMul, Nat.reduceSub, not_true_eq_false, not_false_eq_true, and_self, and_true, true_and, and_false, false_and, nI_add, e1, h.1, kdT hF ho, rT0 hF ho, ixB hF ho hi6, ixB hF ho hi7, nI_cl (show k < 2147483648 by omega), nI_cl (show n - 1 - k < 2147483648 by omega), h.2.1 k hi6, h.2.1 (n - 1 - k) hi7, e2, h4, e3]
          exact ih (k + 1) (by omega) (by omega) (fun i hi => by
            by_cases h5 : i = k
            · rw [h5]; exact h4
            · exact hb i (by omega))
        · rw [bI_f (show ¬ sMi B n from fun q => h4 (q k (by omega)))]
          simp only [s60_0, s60_1, s60_2, s60_3, s60_6, s60_7, s60_8, s60_10, s60_11, s60_14, s60_15, s60_18, s60_19, s60_20, s60_21, s60_24, s60_25, s60_26, s60_29, s60_30, s60_31, s60_34, s60_37, s60_40, s60_41, am_pu_s, am_pu_n, va_rf_s, va_rf_n, Option.bind_some, true_or, or_true, eq_self, if_true, if_false, ite_self, ite_true, ite_false, ↓reduceIte, reduceCtorEq, Nat.reduceEqDiff, Nat.reduceAdd, Nat.reduceLT, Nat.reduceLeDiff, Nat.reduceMul, Nat.reduceSub, not_true_eq_false, not_false_eq_true, and_self, and_true, true_and, and_false, false_and, nI_add, e1, h.1, kdT hF ho, rT0 hF ho, ixB hF ho hi6, ixB hF ho hi7, nI_cl (show k < 2147483648 by omega), nI_cl (show n - 1 - k < 2147483648 by omega), h.2.1 k hi6, h.2.1 (n - 1 - k) hi7, e2, h4]
  have e4 : nI n - nI 1 = nI (n - 1 - 0) := pk_sub (by omega)
  rw [s60]
  simp only [s60_0, s60_1, s60_2, s60_3, s60_6, s60_7, s60_8, s60_10, s60_11, s60_14, s60_15, s60_18, s60_19, s60_20, s60_21, s60_24, s60_25, s60_26, s60_29, s60_30, s60_31, s60_34, s60_37, s60_40, s60_41, am_pu_s, am_pu_n, va_rf_s, va_rf_n, Option.bind_some, true_or, or_true, eq_self, if_true, if_false, ite_self, ite_true, ite_false, ↓reduceIte, reduceCtorEq, Nat.reduceEqDiff, Nat.reduceAdd, Nat.reduceLT, Nat.reduceLeDiff, Nat.reduceMul, Nat.reduceSub, not_true_eq_false, not_false_eq_true, and_self, and_true, true_and, and_false, false_and, kdT hF ho, h.1, e4]
  exact loop n 0 (by omega) (by omega) (fun i hi => absurd hi (by omega))
end TU
