/-! which TOLLS a GATE can have; which TUNE to try -/
def sLo (S : am_St) (g : Nat) : Nat → Nat
  | 0 => 0
  | k + 1 => if S 11 k 0 = g ∧ S 13 k 0 = 0 then max (sLo S g k) (S 12 k 0 + 1) else sLo S g k
def sHt (S : am_St) (g : Nat) : Nat → Nat
  | 0 => 99
  | k + 1 => if S 11 k 0 = g ∧ ¬ S 13 k 0 = 0 then min (sHt S g k) (S 12 k 0) else sHt S g k
abbrev iTo (S : am_St) (g t k : Nat) : Prop := ∀ i, i < k → S 11 i 0 = g → (t ≤ S 12 i 0 ↔ S 13 i 0 = 1)
section TO
variable {X : am_X} {d N g : Nat} {σ : am_M} {S : am_St}
theorem sO_sn (h : sOK N S) : S 10 0 0 ≤ 8 := h.1.2.2.2.1
theorem sO_sp (h : sOK N S) {j : Nat} (hj : j < 8) : S 12 j 0 ≤ 2000 := (h.1.2.2.2.2 j hj).2.1
theorem sO_sg (h : sOK N S) {j : Nat} (hj : j < 8) : S 11 j 0 < 4 := (h.1.2.2.2.2 j hj).1
theorem sO_sv (h : sOK N S) {j : Nat} (hj : j < 8) : S 13 j 0 ≤ 1 := (h.1.2.2.2.2 j hj).2.2
theorem cR_sg (h : cRep S σ) {j : Nat} (hj : j < 8) : am_I σ 12 j = nI (S 11 j 0) := (h.2.1.2.2.2.2 j hj).1
theorem cR_sp (h : cRep S σ) {j : Nat} (hj : j < 8) : am_I σ 13 j = nI (S 12 j 0) := (h.2.1.2.2.2.2 j hj).2.1
theorem cR_sv (h : cRep S σ) {j : Nat} (hj : j < 8) : am_I σ 14 j = nI (S 13 j 0) := (h.2.1.2.2.2.2 j hj).2.2
theorem mR_sg (h : mRep S σ) {j : Nat} (hj : j < 8) : am_I σ 76 j = nI (S 11 j 0) := (h.2.1.2.2 j hj).1
theorem mR_sp (h : mRep S σ) {j : Nat} (hj : j < 8) : am_I σ 77 j = nI (S 12 j 0) := (h.2.1.2.2 j hj).2.1
theorem mR_sv (h : mRep S σ) {j : Nat} (hj : j < 8) : am_I σ 78 j = nI (S 13 j 0) := (h.2.1.2.2 j hj).2.2
theorem sLo_le (hO : sOK N S) : ∀ k, k ≤ 8 → sLo S g k ≤ 2001
  | 0, _ => Nat.zero_le _
  | k + 1, h => by
    have h1 := sLo_le hO k (by omega)
    have h2 := sO_sp hO (show k < 8 by omega)
    unfold sLo
    split <;> omega
theorem sHt_le (S : am_St) (g : Nat) : ∀ k, sHt S g k ≤ 99
  | 0 => Nat.le_refl _
  | k + 1 => by
    have h1 := sHt_le S g k
    unfold sHt
    split <;> omega
theorem iTo_i (hO : sOK N S) {t : Nat} (ht : t ≤ 99) : ∀ k, k ≤ 8 → (iTo S g t k ↔ sLo S g k ≤ t ∧ t ≤ sHt S g k)
  | 0, _ => ⟨fun _ => ⟨Nat.zero_le _, ht⟩, fun _ i hi => absurd hi (Nat.not_lt_zero _)⟩
  | k + 1, h => by
    have h1 := iTo_i hO ht k (by omega)
    have h3 := sO_sv hO (show k < 8 by omega)
    have h2 : iTo S g t (k + 1) ↔ iTo S g t k ∧ (S 11 k 0 = g → (t ≤ S 12 k 0 ↔ S 13 k 0 = 1)) := ⟨fun q => ⟨fun i hi => q i (by omega), q k (by omega)⟩, fun q i hi => by
      by_cases e : i = k
      · rw [e]; exact q.2
      · exact q.1 i (by omega)⟩
    rw [h2, h1, sLo, sHt]
    by_cases hg : S 11 k 0 = g
    · by_cases hv : S 13 k 0 = 0
      · rw [if_pos ⟨hg, hv⟩, if_neg (fun q => q.2 hv)]
        constructor
        · rintro ⟨⟨a1, a2⟩, a3⟩
          have := a3 hg
          omega
        · rintro ⟨a1, a2⟩
          exact ⟨⟨by omega, a2⟩, fun _ => by omega⟩
      · rw [if_neg (fun q => hv q.2), if_pos ⟨hg, hv⟩]
        constructor
        · rintro ⟨⟨a1, a2⟩, a3⟩
          have := a3 hg
          omega
        · rintro ⟨a1, a2⟩
          exact ⟨⟨by omega, by omega⟩, fun _ => by omega⟩
    · rw [if_neg (fun q => hg q.1), if_neg (fun q => hg q.1)]
      constructor
      · rintro ⟨a1, a2⟩
        exact a1
      · intro a1
        exact ⟨a1, fun q => absurd q hg⟩
theorem nI_ma {a b : Nat} (ha : a < 2147483648) (hb : b < 2147483648) : (if nI a < nI b then nI b else nI a) = nI (max a b) := by
  by_cases h : a < b
  · rw [if_pos (nI_lt h hb), Nat.max_eq_right (by omega)]
  · rw [if_neg (nI_nlt (by omega) ha), Nat.max_eq_left (by omega)]
theorem nI_sa (h l : Nat) : nI h - nI l + nI 1 = nI (h + 1) - nI l := by
  rw [Int32.sub_eq_add_neg, Int32.sub_eq_add_neg, ← nI_add, Int32.add_assoc, Int32.add_comm (- nI l), ← Int32.add_assoc]
theorem m42 (h : cRep S σ) (hO : sOK N S) (hg : g < 4) : am_v X (d + 2) 42 [.ref (11 : Nat), .int (nI g)] σ = some (some (.int (nI (sLo S g (S 10 0 0)))), σ) := by
  have hF := h.1
  have hn := sO_sn hO
  have loop : ∀ m k, k + m = S 10 0 0 → am_w X (d + 1) 42 4 [some (.ref (11 : Nat)), some (.int (nI g)), some (.int (nI (sLo S g k))), some (.int (nI k))] [] σ = some (some (.int (nI (sLo S g (S 10 0 0)))), σ) := by
    intro m
    induction m with
    | zero =>
      intro k hk
      have hk : k = S 10 0 0 := by omega
      subst hk
      rw [s42_4]
      simp only [s42_0, s42_1, s42_2, s42_3, s42_5, s42_6, s42_9, s42_12, s42_13, s42_16, s42_17, s42_18, s42_19, s42_22, s42_23, s42_26, s42_27, s42_28, s42_31, s42_32, s42_33, s42_36, s42_37, s42_38, s42_39, s42_40, s42_43, s42_44, s42_47, s42_50, s42_51, am_pu_s, am_pu_n, va_rf_s, va_rf_n, Option.bind_some, true_or, or_true, eq_self, if_true, if_false, ite_self, ite_true, ite_false, ↓reduceIte, reduceCtorEq, Nat.reduceEqDiff, Nat.reduceAdd, Nat.reduceLT, Nat.reduceLeDiff, Nat.reduceMul, Nat.reduceSub, not_true_eq_false, not_false_eq_true, and_self, and_true, true_and, and_false, false_and, hF, kd11, cR_sn h, Int32.le_refl]
    | succ m ih =>
      intro k hk
      have hk8 : k < 8 := by omega
      have e1 : ¬ nI (S 10 0 0) ≤ nI k := nI_ge (by omega) (by omega)
      have b1 := sO_sg hO hk8
      have b2 := sO_sp hO hk8
      have b3 := sO_sv hO hk8
      have b4 := sLo_le (g := g) hO k (by omega)
      have e2 : (nI (S 11 k 0) = nI g) = (S 11 k 0 = g) := nI_EQ (by omega) (by omega)
      have e3 : (nI (S 13 k 0) = nI 0) = (S 13 k 0 = 0) := nI_EQ (by omega) (by decide)
      have e4 := nI_ma (a := sLo S g k) (b := S 12 k 0 + 1) (by omega) (by omega)
      have hh := ih (k + 1) (by omega)
      rw [s42_4]
      by_cases c1 : S 11 k 0 = g
      · by_cases c2 : S 13 k 0 = 0
        · rw [sLo, if_pos ⟨c1, c2⟩] at hh
          simp only [s42_0, s42_1, s42_2, s42_3, s42_5, s42_6, s42_9, s42_12, s42_13, s42_16, s42_17, s42_18, s42_19, s42_22, s42_23, s42_26, s42_27, s42_28, s42_31, s42_32, s42_33, s42_36, s42_37, s42_38, s42_39, s42_40, s42_43, s42_44, s42_47, s42_50, s42_51, am_pu_s, am_pu_n, va_rf_s, va_rf_n, Option.bind_some, true_or, or_true, eq_self, if_true, if_false, ite_self, ite_true, ite_false, ↓reduceIte, reduceCtorEq, Nat.reduceEqDiff, Nat.reduceAdd, Nat.reduceLT, Nat.reduceLeDiff, Nat.reduceMul, Nat.reduceSub, not_true_eq_false, not_false_eq_true, and_self, and_true, true_and, and_false, false_and, nI_add, hF, kd11, rr11_0, rr11_1, rr11_2, ix12 hF hk8, ix13 hF hk8, ix14 hF hk8, nI_cl (show k < 2147483648 by omega), cR_sn h, cR_sg h hk8, cR_sp h hk8, cR_sv h hk8, e1, e2, e3, c1, c2, m217, e4]
          exact hh
        · rw [sLo, if_neg (fun q => c2 q.2)] at hh
          simp only [s42_0, s42_1, s42_2, s42_3, s42_5, s42_6, s42_9, s42_12, s42_13, s42_16, s42_17, s42_18, s42_19, s42_22, s42_23, s42_26, s42_27, s42_28, s42_31, s42_32, s42_33, s42_36, s42_37, s42_38, s42_39, s42_40, s42_43, s42_44, s42_47, s42_50, s42_51, am_pu_s, am_pu_n, va_rf_s, va_rf_n, Option.bind_some, true_or, or_true, eq_self, if_true, if_false, ite_self, ite_true, ite_false, ↓reduceIte, reduceCtorEq, Nat.reduceEqDiff, Nat.reduceAdd, Nat.reduceLT, Nat.reduceLeDiff, Nat.reduceMul, Nat.reduceSub, not_true_eq_false, not_false_eq_true, and_self, and_true, true_and, and_false, false_and, nI_add, hF, kd11, rr11_0, rr11_1, rr11_2, ix12 hF hk8, ix13 hF hk8, ix14 hF hk8, nI_cl (show k < 2147483648 by omega), cR_sn h, cR_sg h hk8, cR_sp h hk8, cR_sv h hk8, e1, e2, e3, c1, c2]
          exact hh
      · rw [sLo, if_neg (fun q => c1 q.1)] at hh
        simp only [s42_0, s42_1, s42_2, s42_3, s42_5, s42_6, s42_9, s42_12, s42_13, s42_16, s42_17, s42_18, s42_19, s42_22, s42_23, s42_26, s42_27, s42_28, s42_31, s42_32, s42_33, s42_36, s42_37, s42_38, s42_39, s42_40, s42_43, s42_44, s42_47, s42_50, s42_51, am_pu_s, am_pu_n, va_rf_s, va_rf_n, Option.bind_some, true_or, or_true, eq_self, if_true, if_false, ite_self, ite_true, ite_false, ↓reduceIte, reduceCtorEq, Nat.reduceEqDiff, Nat.reduceAdd, Nat.reduceLT, Nat.reduceLeDiff, Nat.reduceMul, Nat.reduceSub, not_true_eq_false, not_false_eq_true, and_self, and_true, true_and, and_false, false_and, nI_add, hF, kd11, rr11_0, rr11_1, rr11_2, ix12 hF hk8, ix13 hF hk8, ix14 hF hk8, nI_cl (show k < 2147483648 by omega), cR_sn h, cR_sg h hk8, e1, e2, c1]
        exact hh
  rw [s42]
  simp only [s42_0, s42_1, s42_2, s42_3, s42_5, s42_6, s42_9, s42_12, s42_13, s42_16, s42_17, s42_18, s42_19, s42_22, s42_23, s42_26, s42_27, s42_28, s42_31, s42_32, s42_33, s42_36, s42_37, s42_38, s42_39, s42_40, s42_43, s42_44, s42_47, s42_50, s42_51, am_pu_s, am_pu_n, va_rf_s, va_rf_n, Option.bind_some, true_or, or_true, eq_self, if_true, if_false, ite_self, ite_true, ite_false, ↓reduceIte, reduceCtorEq, Nat.reduceEqDiff, Nat.reduceAdd, Nat.reduceLT, Nat.reduceLeDiff, Nat.reduceMul, Nat.reduceSub, not_true_eq_false, not_false_eq_true, and_self, and_true, true_and, and_false, false_and]
  exact loop (S 10 0 0) 0 (by omega)
theorem m43 (h : cRep S σ) (hO : sOK N S) (hg : g < 4) : am_v X (d + 2) 43 [.ref (11 : Nat), .int (nI g)] σ = some (some (.int (nI (sHt S g (S 10 0 0)))), σ) := by
  have hF := h.1
  have hn := sO_sn hO
  have loop : ∀ m k, k + m = S 10 0 0 → am_w X (d + 1) 43 5 [some (.ref (11 : Nat)), some (.int (nI g)), some (.int (nI (sHt S g k))), some (.int (nI k))] [] σ = some (some (.int (nI (sHt S g (S 10 0 0)))), σ) := by
    intro m
    induction m with
    | zero =>
      intro k hk
      have hk : k = S 10 0 0 := by omega
      subst hk
      rw [s43_5]
      simp only [s43_0, s43_2, s43_3, s43_4, s43_6, s43_7, s43_10, s43_13, s43_14, s43_17, s43_18, s43_19, s43_20, s43_23, s43_24, s43_27, s43_28, s43_29, s43_32, s43_33, s43_34, s43_37, s43_38, s43_39, s43_42, s43_43, s43_46, s43_49, s43_50, am_pu_s, am_pu_n, va_rf_s, va_rf_n, Option.bind_some, true_or, or_true, eq_self, if_true, if_false, ite_self, ite_true, ite_false, ↓reduceIte, reduceCtorEq, Nat.reduceEqDiff, Nat.reduceAdd, Nat.reduceLT, Nat.reduceLeDiff, Nat.reduceMul, Nat.reduceSub, not_true_eq_false, not_false_eq_true, and_self, and_true, true_and, and_false, false_and, hF, kd11, cR_sn h, Int32.le_refl]
    | succ m ih =>
      intro k hk
      have hk8 : k < 8 := by omega
      have e1 : ¬ nI (S 10 0 0) ≤ nI k := nI_ge (by omega) (by omega)
      have b1 := sO_sg hO hk8
      have b2 := sO_sp hO hk8
      have b3 := sO_sv hO hk8
      have b4 := sHt_le S g k
      have e2 : (nI (S 11 k 0) = nI g) = (S 11 k 0 = g) := nI_EQ (by omega) (by omega)
      have e3 : (nI (S 13 k 0) = nI 0) = (S 13 k 0 = 0) := nI_EQ (by omega) (by decide)
      have e4 := nI_mi (a := sHt S g k) (b := S 12 k 0) (by omega) (by omega)
      have hh := ih (k + 1) (by omega)
      rw [s43_5]
      by_cases c1 : S 11 k 0 = g
      · by_cases c2 : S 13 k 0 = 0
        · rw [sHt, if_neg (fun q => q.2 c2)] at hh
          simp only [s43_0, s43_2, s43_3, s43_4, s43_6, s43_7, s43_10, s43_13, s43_14, s43_17, s43_18, s43_19, s43_20, s43_23, s43_24, s43_27, s43_28, s43_29, s43_32, s43_33, s43_34, s43_37, s43_38, s43_39, s43_42, s43_43, s43_46, s43_49, s43_50, am_pu_s, am_pu_n, va_rf_s, va_rf_n, Option.bind_some, true_or, or_true, eq_self, if_true, if_false, ite_self, ite_true, ite_false, ↓reduceIte, reduceCtorEq, Nat.reduceEqDiff, Nat.reduceAdd, Nat.reduceLT, Nat.reduceLeDiff, Nat.reduceMul, Nat.reduceSub, not_true_eq_false, not_false_eq_true, and_self, and_true, true_and, and_false, false_and, nI_add, hF, kd11, rr11_0, rr11_1, rr11_2, ix12 hF hk8, ix13 hF hk8, ix14 hF hk8, nI_cl (show k < 2147483648 by omega), cR_sn h, cR_sg h hk8, cR_sp h hk8, cR_sv h hk8, e1, e2, e3, c1, c2]
          exact hh
        · rw [sHt, if_pos ⟨c1, c2⟩] at hh
          simp only [s43_0, s43_2, s43_3, s43_4, s43_6, s43_7, s43_10, s43_13, s43_14, s43_17, s43_18, s43_19, s43_20, s43_23, s43_24, s43_27, s43_28, s43_29, s43_32, s43_33, s43_34, s43_37, s43_38, s43_39, s43_42, s43_43, s43_46, s43_49, s43_50, am_pu_s, am_pu_n, va_rf_s, va_rf_n, Option.bind_some, true_or, or_true, eq_self, if_true, if_false, ite_self, ite_true, ite_false, ↓reduceIte, reduceCtorEq, Nat.reduceEqDiff, Nat.reduceAdd, Nat.reduceLT, Nat.reduceLeDiff, Nat.reduceMul, Nat.reduceSub, not_true_eq_false, not_false_eq_true, and_self, and_true, true_and, and_false, false_and, nI_add, hF, kd11, rr11_0, rr11_1, rr11_2, ix12 hF hk8, ix13 hF hk8, ix14 hF hk8, nI_cl (show k < 2147483648 by omega), cR_sn h, cR_sg h hk8, cR_sp h hk8, cR_sv h hk8, e1, e2, e3, c1, c2, m218, e4]
          exact hh
      · rw [sHt, if_neg (fun q => c1 q.1)] at hh
        simp only [s43_0, s43_2, s43_3, s43_4, s43_6, s43_7, s43_10, s43_13, s43_14, s43_17, s43_18, s43_19, s43_20, s43_23, s43_24, s43_27, s43_28, s43_29, s43_32, s43_33, s43_34, s43_37, s43_38, s43_39, s43_42, s43_43, s43_46, s43_49, s43_50, am_pu_s, am_pu_n, va_rf_s, va_rf_n, Option.bind_some, true_or, or_true, eq_self, if_true, if_false, ite_self, ite_true, ite_false, ↓reduceIte, reduceCtorEq, Nat.reduceEqDiff, Nat.reduceAdd, Nat.reduceLT, Nat.reduceLeDiff, Nat.reduceMul, Nat.reduceSub, not_true_eq_false, not_false_eq_true, and_self, and_true, true_and, and_false, false_and, nI_add, hF, kd11, rr11_0, rr11_1, rr11_2, ix12 hF hk8, ix13 hF hk8, ix14 hF hk8, nI_cl (show k < 2147483648 by omega), cR_sn h, cR_sg h hk8, e1, e2, c1]
        exact hh
  rw [s43]
  simp only [s43_0, s43_2, s43_3, s43_4, s43_6, s43_7, s43_10, s43_13, s43_14, s43_17, s43_18, s43_19, s43_20, s43_23, s43_24, s43_27, s43_28, s43_29, s43_32, s43_33, s43_34, s43_37, s43_38, s43_39, s43_42, s43_43, s43_46, s43_49, s43_50, am_pu_s, am_pu_n, va_rf_s, va_rf_n, Option.bind_some, true_or, or_true, eq_self, if_true, if_false, ite_self, ite_true, ite_false, ↓reduceIte, reduceCtorEq, Nat.reduceEqDiff, Nat.reduceAdd, Nat.reduceLT, Nat.reduceLeDiff, Nat.reduceMul, Nat.reduceSub, not_true_eq_false, not_false_eq_true, and_self, and_true, true_and, and_false, false_and]
  exact loop (S 10 0 0) 0 (by omega)
/-- the least and the greatest TOLL that can be -/
abbrev lo (S : am_St) (g : Nat) : Nat := sLo S g (S 10 0 0)
abbrev ht (S : am_St) (g : Nat) : Nat := sHt S g (S 10 0 0)
theorem lo_le (hO : sOK N S) : lo S g ≤ 2001 := sLo_le hO _ (sO_sn hO)
theorem ht_le (S : am_St) (g : Nat) : ht S g ≤ 99 := sHt_le S g _
theorem m44 (h : cRep S σ) (hO : sOK N S) (hg : g < 4) : am_v X (d + 3) 44 [.ref (11 : Nat), .int (nI g)] σ = some (some (.int (nI (ht S g + 1 - lo S g))), σ) := by
  have hF := h.1
  have b1 := lo_le (g := g) hO
  have b2 := ht_le S g
  rw [s44]
  simp only [s44_0, s44_1, s44_2, s44_3, s44_6, s44_7, s44_8, s44_11, s44_12, s44_13, s44_14, s44_17, am_pu_s, am_pu_n, va_rf_s, va_rf_n, Option.bind_some, true_or, or_true, eq_self, if_true, if_false, ite_self, ite_true, ite_false, ↓reduceIte, reduceCtorEq, Nat.reduceEqDiff, Nat.reduceAdd, Nat.reduceLT, Nat.reduceLeDiff, Nat.reduceMul, Nat.reduceSub, not_true_eq_false, not_false_eq_true, and_self, and_true, true_and, and_false, false_and, hF, kd11, m42 h hO hg, m43 h hO hg, m217, nI_sa, nI_max (show ht S g + 1 < 2 ^ 30 by omega) (show lo S g < 2 ^ 30 by omega)]
theorem m45 (h : cRep S σ) (hO : sOK N S) (hg : g < 4) {p : Nat} (hp : p ≤ 2000) : am_v X (d + 4) 45 [.ref (11 : Nat), .int (nI g), .int (nI p)] σ = some (some (.int (nI (max (min (ht S g) p + 1 - lo S g) (ht S g + 1 - lo S g - (min (ht S g) p + 1 - lo S g))))), σ) := by
  have hF := h.1
  have b1 := lo_le (g := g) hO
  have b2 := ht_le S g
  rw [s45]
  simp only [s45_0, s45_1, s45_2, s45_3, s45_6, s45_7, s45_10, s45_11, s45_12, s45_15, s45_16, s45_17, s45_18, s45_21, s45_22, s45_23, s45_24, s45_25, s45_28, s45_29, s45_30, s45_33, am_pu_s, am_pu_n, va_rf_s, va_rf_n, Option.bind_some, true_or, or_true, eq_self, if_true, if_false, ite_self, ite_true, ite_false, ↓reduceIte, reduceCtorEq, Nat.reduceEqDiff, Nat.reduceAdd, Nat.reduceLT, Nat.reduceLeDiff, Nat.reduceMul, Nat.reduceSub, not_true_eq_false, not_false_eq_true, and_self, and_true, true_and, and_false, false_and, hF, kd11, m42 h hO hg, m43 h hO hg, m44 h hO hg, m217, m218, nI_sa, nI_mi (show ht S g < 2147483648 by omega) (show p < 2147483648 by omega), nI_max (show min (ht S g) p + 1 < 2 ^ 30 by omega) (show lo S g < 2 ^ 30 by omega), pk_sub (show min (ht S g) p + 1 - lo S g ≤ ht S g + 1 - lo S g by omega), nI_ma (show min (ht S g) p + 1 - lo S g < 2147483648 by omega) (show ht S g + 1 - lo S g - (min (ht S g) p + 1 - lo S g) < 2147483648 by omega)]
/-! the model -/
theorem bI_0f {c : Prop} [Decidable c] (h : ¬ c) : (bI c = nI 0) := if_neg h
theorem m196 (h : mRep S σ) (hO : sOK N S) (hg : g < 4) {t : Nat} (h99 : t ≤ 99) : am_v X (d + 1) 196 [.ref (66 : Nat), .int (nI g), .int (nI t)] σ = some (some (.int (bI (lo S g ≤ t ∧ t ≤ ht S g))), σ) := by
  have hF := h.1
  have hn := sO_sn hO
  rw [bI_c (iTo_i (g := g) hO h99 (S 10 0 0) hn).symm]
  have loop : ∀ m k, k + m = S 10 0 0 → am_w X d 196 5 [some (.ref (66 : Nat)), some (.int (nI g)), some (.int (nI t)), some (.int (bI (iTo S g t k))), some (.int (nI k))] [] σ = some (some (.int (bI (iTo S g t (S 10 0 0)))), σ) := by
    intro m
    induction m with
    | zero =>
      intro k hk
      have hk : k = S 10 0 0 := by omega
      subst hk
      rw [s196_5]
      simp only [s196_7, s196_8, s196_11, s196_14, s196_15, s196_18, s196_19, s196_22, s196_24, s196_25, s196_26, s196_29, s196_30, s196_33, s196_35, s196_36, s196_37, s196_40, s196_41, s196_44, s196_45, s196_46, s196_49, s196_51, s196_52, s196_53, s196_56, s196_57, s196_60, s196_61, s196_64, s196_65, s196_68, s196_69, s196_70, s196_73, s196_76, am_pu_s, am_pu_n, va_rf_s, va_rf_n, Option.bind_some, true_or, or_true, eq_self, if_true, if_false, ite_self, ite_true, ite_false, ↓reduceIte, reduceCtorEq, Nat.reduceEqDiff, Nat.reduceAdd, Nat.reduceLT, Nat.reduceLeDiff, Nat.reduceMul, Nat.reduceSub, not_true_eq_false, not_false_eq_true, and_self, and_true, true_and, and_false, false_and, hF, kd66, mR_sn h, Int32.le_refl]
      exact s196_77 bI_01
    | succ m ih =>
      intro k hk
      have hk8 : k < 8 := by omega
      have e1 : ¬ nI (S 10 0 0) ≤ nI k := nI_ge (by omega) (by omega)
      have b1 := sO_sg hO hk8
      have b2 := sO_sp hO hk8
      have b3 := sO_sv hO hk8
      have e2 : (nI (S 11 k 0) = nI g) = (S 11 k 0 = g) := nI_EQ (by omega) (by omega)
      have e3 : (nI (S 13 k 0) = nI 1) = (S 13 k 0 = 1) := nI_EQ (by omega) (by decide)
      have e4 : (nI (S 12 k 0) < nI t) = (S 12 k 0 < t) := nI_LT (by omega) (by omega)
      have h2 : iTo S g t (k + 1) ↔ iTo S g t k ∧ (S 11 k 0 = g → (t ≤ S 12 k 0 ↔ S 13 k 0 = 1)) := ⟨fun q => ⟨fun i hi => q i (by omega), q k (by omega)⟩, fun q i hi => by
        by_cases e : i = k
        · rw [e]; exact q.2
        · exact q.1 i (by omega)⟩
      have hh := ih (k + 1) (by omega)
      rw [bI_c h2] at hh
      rw [s196_5]
      by_cases c0 : iTo S g t k
      · rw [bI_t c0]
        by_cases c1 : S 11 k 0 = g
        · by_cases c2 : S 12 k 0 < t
          · by_cases c3 : S 13 k 0 = 1
            · rw [bI_f (fun q => by have := q.2 c1; omega)] at hh
              simp only [s196_7, s196_8, s196_11, s196_14, s196_15, s196_18, s196_19, s196_22, s196_24, s196_25, s196_26, s196_29, s196_30, s196_33, s196_35, s196_36, s196_37, s196_40, s196_41, s196_44, s196_45, s196_46, s196_49, s196_51, s196_52, s196_53, s196_56, s196_57, s196_60, s196_61, s196_64, s196_65, s196_68, s196_69, s196_70, s196_73, am_pu_s, am_pu_n, va_rf_s, va_rf_n, Option.bind_some, true_or, or_true, eq_self, if_true, if_false, ite_self, ite_true, ite_false, ↓reduceIte, reduceCtorEq, Nat.reduceEqDiff, Nat.reduceAdd, Nat.reduceLT, Nat.reduceLeDiff, Nat.reduceMul, Nat.reduceSub, not_true_eq_false, not_false_eq_true, and_self, and_true, true_and, and_false, false_and, nI_add, nI_10, nI_EQ, hF, kd66, rr66_13, rr66_14, rr66_15, ix76 hF hk8, ix77 hF hk8, ix78 hF hk8, nI_cl (show k < 2147483648 by omega), mR_sn h, mR_sg h hk8, mR_sp h hk8, mR_sv h hk8, e1, e2, e3, e4, c1, c2, c3, Nat.reduceEqDiff]
              exact hh
            · rw [bI_t ⟨c0, fun _ => by omega⟩] at hh
              simp only [s196_7, s196_8, s196_11, s196_14, s196_15, s196_18, s196_19, s196_22, s196_24, s196_25, s196_26, s196_29, s196_30, s196_33, s196_35, s196_36, s196_37, s196_40, s196_41, s196_44, s196_45, s196_46, s196_49, s196_51, s196_52, s196_53, s196_56, s196_57, s196_60, s196_61, s196_64, s196_65, s196_68, s196_69, s196_70, s196_73, am_pu_s, am_pu_n, va_rf_s, va_rf_n, Option.bind_some, true_or, or_true, eq_self, if_true, if_false, ite_self, ite_true, ite_false, ↓reduceIte, reduceCtorEq, Nat.reduceEqDiff, Nat.reduceAdd, Nat.reduceLT, Nat.reduceLeDiff, Nat.reduceMul, Nat.reduceSub, not_true_eq_false, not_false_eq_true, and_self, and_true, true_and, and_false, false_and, nI_add, nI_10, nI_EQ, hF, kd66, rr66_13, rr66_14, rr66_15, ix76 hF hk8, ix77 hF hk8, ix78 hF hk8, nI_cl (show k < 2147483648 by omega), mR_sn h, mR_sg h hk8, mR_sp h hk8, mR_sv h hk8, e1, e2, e3, e4, c1, c2, c3]
              exact hh
          · by_cases c3 : S 13 k 0 = 1
            · rw [bI_t ⟨c0, fun _ => by omega⟩] at hh
              simp only [s196_7, s196_8, s196_11, s196_14, s196_15, s196_18, s196_19, s196_22, s196_24, s196_25, s196_26, s196_29, s196_30, s196_33, s196_35, s196_36, s196_37, s196_40, s196_41, s196_44, s196_45, s196_46, s196_49, s196_51, s196_52, s196_53, s196_56, s196_57, s196_60, s196_61, s196_64, s196_65, s196_68, s196_69, s196_70, s196_73, am_pu_s, am_pu_n, va_rf_s, va_rf_n, Option.bind_some, true_or, or_true, eq_self, if_true, if_false, ite_self, ite_true, ite_false, ↓reduceIte, reduceCtorEq, Nat.reduceEqDiff, Nat.reduceAdd, Nat.reduceLT, Nat.reduceLeDiff, Nat.reduceMul, Nat.reduceSub, not_true_eq_false, not_false_eq_true, and_self, and_true, true_and, and_false, false_and, nI_add, nI_10, nI_EQ, hF, kd66, rr66_13, rr66_14, rr66_15, ix76 hF hk8, ix77 hF hk8, ix78 hF hk8, nI_cl (show k < 2147483648 by omega), mR_sn h, mR_sg h hk8, mR_sp h hk8, mR_sv h hk8, e1, e2, e3, e4, c1, c2, c3]
              exact hh
            · rw [bI_f (fun q => by have := q.2 c1; omega)] at hh
              simp only [s196_7, s196_8, s196_11, s196_14, s196_15, s196_18, s196_19, s196_22, s196_24, s196_25, s196_26, s196_29, s196_30, s196_33, s196_35, s196_36, s196_37, s196_40, s196_41, s196_44, s196_45, s196_46, s196_49, s196_51, s196_52, s196_53, s196_56, s196_57, s196_60, s196_61, s196_64, s196_65, s196_68, s196_69, s196_70, s196_73, am_pu_s, am_pu_n, va_rf_s, va_rf_n, Option.bind_some, true_or, or_true, eq_self, if_true, if_false, ite_self, ite_true, ite_false, ↓reduceIte, reduceCtorEq, Nat.reduceEqDiff, Nat.reduceAdd, Nat.reduceLT, Nat.reduceLeDiff, Nat.reduceMul, Nat.reduceSub, not_true_eq_false, not_false_eq_true, and_self, and_true, true_and, and_false, false_and, nI_add, nI_10, nI_EQ, hF, kd66, rr66_13, rr66_14, rr66_15, ix76 hF hk8, ix77 hF hk8, ix78 hF hk8, nI_cl (show k < 2147483648 by omega), mR_sn h, mR_sg h hk8, mR_sp h hk8, mR_sv h hk8, e1, e2, e3, e4, c1, c2, c3]
              exact hh
        · rw [bI_t ⟨c0, fun q => absurd q c1⟩] at hh
          simp only [s196_7, s196_8, s196_11, s196_14, s196_15, s196_18, s196_19, s196_22, s196_24, s196_25, s196_26, s196_29, s196_30, s196_33, s196_35, s196_36, s196_37, s196_40, s196_41, s196_44, s196_45, s196_46, s196_49, s196_51, s196_52, s196_53, s196_56, s196_57, s196_60, s196_61, s196_64, s196_65, s196_68, s196_69, s196_70, s196_73, am_pu_s, am_pu_n, va_rf_s, va_rf_n, Option.bind_some, true_or, or_true, eq_self, if_true, if_false, ite_self, ite_true, ite_false, ↓reduceIte, reduceCtorEq, Nat.reduceEqDiff, Nat.reduceAdd, Nat.reduceLT, Nat.reduceLeDiff, Nat.reduceMul, Nat.reduceSub, not_true_eq_false, not_false_eq_true, and_self, and_true, true_and, and_false, false_and, nI_add, nI_10, hF, kd66, rr66_13, ix76 hF hk8, nI_cl (show k < 2147483648 by omega), mR_sn h, mR_sg h hk8, e1, e2, c1]
          exact hh
      · rw [bI_f c0]
        rw [bI_f (fun q => c0 q.1)] at hh
        simp only [s196_7, s196_8, s196_11, s196_14, s196_15, s196_18, s196_19, s196_22, s196_24, s196_25, s196_26, s196_29, s196_30, s196_33, s196_35, s196_36, s196_37, s196_40, s196_41, s196_44, s196_45, s196_46, s196_49, s196_51, s196_52, s196_53, s196_56, s196_57, s196_60, s196_61, s196_64, s196_65, s196_68, s196_69, s196_70, s196_73, am_pu_s, am_pu_n, va_rf_s, va_rf_n, Option.bind_some, true_or, or_true, eq_self, if_true, if_false, ite_self, ite_true, ite_false, ↓reduceIte, reduceCtorEq, Nat.reduceEqDiff, Nat.reduceAdd, Nat.reduceLT, Nat.reduceLeDiff, Nat.reduceMul, Nat.reduceSub, not_true_eq_false, not_false_eq_true, and_self, and_true, true_and, and_false, false_and, nI_add, hF, kd66, mR_sn h, e1]
        exact hh
  have hh := loop (S 10 0 0) 0 (by omega)
  rw [bI_t (show iTo S g t 0 from fun i hi => absurd hi (by omega))] at hh
  rw [s196]
  simp only [s196_0, s196_1, s196_2, s196_3, am_pu_s, am_pu_n, va_rf_s, va_rf_n, Option.bind_some, true_or, or_true, eq_self, if_true, if_false, ite_self, ite_true, ite_false, ↓reduceIte, reduceCtorEq, Nat.reduceEqDiff, Nat.reduceAdd, Nat.reduceLT, Nat.reduceLeDiff, Nat.reduceMul, Nat.reduceSub, not_true_eq_false, not_false_eq_true, and_self, and_true, true_and, and_false, false_and]
  exact hh
/-- the least, the greatest of the TOLLS under T; 0: none, else one more -/
theorem m197 (h : mRep S σ) (hO : sOK N S) (hg : g < 4) {w : Nat} (hw : w < 3) : am_v X (d + 2) 197 [.ref (66 : Nat), .int (nI g), .int (nI w)] σ = some (some (.int (if w = 0 then nI (ht S g + 1 - lo S g) else if ht S g + 1 - lo S g = 0 then -1 else if w = 1 then nI (lo S g) else nI (ht S g))), σ) := by
  have hF := h.1
  have b1 := lo_le (g := g) hO
  have b2 := ht_le S g
  have loop : ∀ m t, t + m = 100 → am_w X (d + 1) 197 11 [some (.ref (66 : Nat)), some (.int (nI g)), some (.int (nI w)), some (.int (nI (min t (ht S g + 1) - lo S g))), some (.int (wM (if lo S g < min t (ht S g + 1) then lo S g + 1 else 0))), some (.int (wM (if lo S g < min t (ht S g + 1) then min t (ht S g + 1) else 0))), some (.int (nI t))] [] σ = some (some (.int (if w = 0 then nI (ht S g + 1 - lo S g) else if ht S g + 1 - lo S g = 0 then -1 else if w = 1 then nI (lo S g) else nI (ht S g))), σ) := by
    intro m
    induction m with
    | zero =>
      intro t hk
      have hk : t = 100 := by omega
      subst hk
      have e0 : min 100 (ht S g + 1) = ht S g + 1 := by omega
      have e1 : nI 99 < nI 100 := nI_lt (by decide) (by decide)
      have e2 : (nI w = nI 0) = (w = 0) := nI_EQ (by omega) (by decide)
      have e3 : (nI w = nI 1) = (w = 1) := nI_EQ (by omega) (by decide)
      rw [e0, s197_11]
      by_cases c : lo S g < ht S g + 1
      · have c' : ¬ ht S g + 1 - lo S g = 0 := by omega
        have q1 : wM (lo S g + 1) = nI (lo S g) := if_neg (by omega)
        have q2 : wM (ht S g + 1) = nI (ht S g) := if_neg (by omega)
        rw [if_pos c, if_pos c, q1, q2]
        by_cases c0 : w = 0
        · simp only [s197_13, s197_15, s197_18, s197_19, s197_20, s197_22, s197_25, s197_28, s197_31, s197_33, s197_34, s197_37, s197_39, s197_42, s197_44, s197_46, s197_48, s197_50, s197_53, s197_56, s197_57, s197_60, s197_61, s197_64, s197_65, s197_66, s197_69, s197_71, s197_74, s197_76, am_pu_s, am_pu_n, va_rf_s, va_rf_n, Option.bind_some, true_or, or_true, eq_self, if_true, if_false, ite_self, ite_true, ite_false, ↓reduceIte, reduceCtorEq, Nat.reduceEqDiff, Nat.reduceAdd, Nat.reduceLT, Nat.reduceLeDiff, Nat.reduceMul, Nat.reduceSub, not_true_eq_false, not_false_eq_true, and_self, and_true, true_and, and_false, false_and, e1, e2, e3, c0]
        · by_cases c1 : w = 1 <;> simp only [s197_13, s197_15, s197_18, s197_19, s197_20, s197_22, s197_25, s197_28, s197_31, s197_33, s197_34, s197_37, s197_39, s197_42, s197_44, s197_46, s197_48, s197_50, s197_53, s197_56, s197_57, s197_60, s197_61, s197_64, s197_65, s197_66, s197_69, s197_71, s197_74, s197_76, am_pu_s, am_pu_n, va_rf_s, va_rf_n, Option.bind_some, true_or, or_true, eq_self, if_true, if_false, ite_self, ite_true, ite_false, ↓reduceIte, reduceCtorEq, Nat.reduceEqDiff, Nat.reduceAdd, Nat.reduceLT, Nat.reduceLeDiff, Nat.reduceMul, Nat.reduceSub, not_true_eq_false, not_false_eq_true, and_self, and_true, true_and, and_false, false_and, e1, e2, e3, c0, c1, c', nI_10, Nat.reduceEqDiff]
      · have c' : ht S g + 1 - lo S g = 0 := by omega
        have q1 : wM 0 = -1 := if_pos rfl
        rw [if_neg c, if_neg c, q1]
        by_cases c0 : w = 0
        · simp only [s197_13, s197_15, s197_18, s197_19, s197_20, s197_22, s197_25, s197_28, s197_31, s197_33, s197_34, s197_37, s197_39, s197_42, s197_44, s197_46, s197_48, s197_50, s197_53, s197_56, s197_57, s197_60, s197_61, s197_64, s197_65, s197_66, s197_69, s197_71, s197_74, s197_76, am_pu_s, am_pu_n, va_rf_s, va_rf_n, Option.bind_some, true_or, or_true, eq_self, if_true, if_false, ite_self, ite_true, ite_false, ↓reduceIte, reduceCtorEq, Nat.reduceEqDiff, Nat.reduceAdd, Nat.reduceLT, Nat.reduceLeDiff, Nat.reduceMul, Nat.reduceSub, not_true_eq_false, not_false_eq_true, and_self, and_true, true_and, and_false, false_and, e1, e2, e3, c0]
        · by_cases c1 : w = 1 <;> simp only [s197_13, s197_15, s197_18, s197_19, s197_20, s197_22, s197_25, s197_28, s197_31, s197_33, s197_34, s197_37, s197_39, s197_42, s197_44, s197_46, s197_48, s197_50, s197_53, s197_56, s197_57, s197_60, s197_61, s197_64, s197_65, s197_66, s197_69, s197_71, s197_74, s197_76, am_pu_s, am_pu_n, va_rf_s, va_rf_n, Option.bind_some, true_or, or_true, eq_self, if_true, if_false, ite_self, ite_true, ite_false, ↓reduceIte, reduceCtorEq, Nat.reduceEqDiff, Nat.reduceAdd, Nat.reduceLT, Nat.reduceLeDiff, Nat.reduceMul, Nat.reduceSub, not_true_eq_false, not_false_eq_true, and_self, and_true, true_and, and_false, false_and, e1, e2, e3, c0, c1, c', nI_10, Nat.reduceEqDiff]
    | succ m ih =>
      intro t hk
      have e1 : ¬ nI 99 < nI t := nI_nlt (by omega) (by decide)
      have m1 := m196 (X := X) (d := d) h hO hg (show t ≤ 99 by omega)
      have hh := ih (t + 1) (by omega)
      rw [s197_11]
      by_cases c : lo S g ≤ t ∧ t ≤ ht S g
      · rw [bI_t c] at m1
        obtain ⟨c1, c2⟩ := c
        rw [show min (t + 1) (ht S g + 1) = t + 1 by omega, if_pos (by omega), if_pos (by omega)] at hh
        rw [show min t (ht S g + 1) = t by omega]
        have q1 : wM (lo S g + 1) = nI (lo S g) := if_neg (by omega)
        have q2 : wM (t + 1) = nI t := if_neg (by omega)
        rw [q1, q2, show t + 1 - lo S g = t - lo S g + 1 by omega] at hh
        by_cases c3 : lo S g < t
        · rw [if_pos c3, if_pos c3, q1]
          have q3 : (nI (lo S g) = -1) = False := nI_m1 (by omega)
          simp only [s197_13, s197_15, s197_18, s197_19, s197_20, s197_22, s197_25, s197_28, s197_31, s197_33, s197_34, s197_37, s197_39, s197_42, s197_44, s197_46, s197_48, s197_50, s197_53, am_pu_s, am_pu_n, va_rf_s, va_rf_n, Option.bind_some, true_or, or_true, eq_self, if_true, if_false, ite_self, ite_true, ite_false, ↓reduceIte, reduceCtorEq, Nat.reduceEqDiff, Nat.reduceAdd, Nat.reduceLT, Nat.reduceLeDiff, Nat.reduceMul, Nat.reduceSub, not_true_eq_false, not_false_eq_true, and_self, and_true, true_and, and_false, false_and, nI_add, nI_10, hF, kd66, e1, m1, q3]
          exact hh
        · rw [if_neg c3, if_neg c3]
          have q1 : wM 0 = -1 := if_pos rfl
          have q3 : lo S g = t := by omega
          rw [q3] at hh
          rw [q1, q3]
          simp only [s197_13, s197_15, s197_18, s197_19, s197_20, s197_22, s197_25, s197_28, s197_31, s197_33, s197_34, s197_37, s197_39, s197_42, s197_44, s197_46, s197_48, s197_50, s197_53, am_pu_s, am_pu_n, va_rf_s, va_rf_n, Option.bind_some, true_or, or_true, eq_self, if_true, if_false, ite_self, ite_true, ite_false, ↓reduceIte, reduceCtorEq, Nat.reduceEqDiff, Nat.reduceAdd, Nat.reduceLT, Nat.reduceLeDiff, Nat.reduceMul, Nat.reduceSub, not_true_eq_false, not_false_eq_true, and_self, and_true, true_and, and_false, false_and, nI_add, nI_10, hF, kd66, e1, m1]
          exact hh
      · rw [bI_f c] at m1
        have q1 : min (t + 1) (ht S g + 1) - lo S g = min t (ht S g + 1) - lo S g := by omega
        have q2 : (lo S g < min (t + 1) (ht S g + 1)) = (lo S g < min t (ht S g + 1)) := propext (by omega)
        rw [q1] at hh
        by_cases c3 : lo S g < min t (ht S g + 1)
        · rw [if_pos (q2.mpr c3), if_pos (q2.mpr c3), show min (t + 1) (ht S g + 1) = min t (ht S g + 1) by omega] at hh
          rw [if_pos c3, if_pos c3]
          simp only [s197_13, s197_15, s197_18, s197_19, s197_20, s197_22, s197_25, s197_28, s197_31, s197_33, s197_34, s197_37, s197_39, s197_42, s197_44, s197_46, s197_48, s197_50, s197_53, am_pu_s, am_pu_n, va_rf_s, va_rf_n, Option.bind_some, true_or, or_true, eq_self, if_true, if_false, ite_self, ite_true, ite_false, ↓reduceIte, reduceCtorEq, Nat.reduceEqDiff, Nat.reduceAdd, Nat.reduceLT, Nat.reduceLeDiff, Nat.reduceMul, Nat.reduceSub, not_true_eq_false, not_false_eq_true, and_self, and_true, true_and, and_false, false_and, nI_add, nI_10, hF, kd66, e1, m1]
          exact hh
        · rw [if_neg (fun q => c3 (q2.mp q)), if_neg (fun q => c3 (q2.mp q))] at hh
          rw [if_neg c3, if_neg c3]
          simp only [s197_13, s197_15, s197_18, s197_19, s197_20, s197_22, s197_25, s197_28, s197_31, s197_33, s197_34, s197_37, s197_39, s197_42, s197_44, s197_46, s197_48, s197_50, s197_53, am_pu_s, am_pu_n, va_rf_s, va_rf_n, Option.bind_some, true_or, or_true, eq_self, if_true, if_false, ite_self, ite_true, ite_false, ↓reduceIte, reduceCtorEq, Nat.reduceEqDiff, Nat.reduceAdd, Nat.reduceLT, Nat.reduceLeDiff, Nat.reduceMul, Nat.reduceSub, not_true_eq_false, not_false_eq_true, and_self, and_true, true_and, and_false, false_and, nI_add, nI_10, hF, kd66, e1, m1]
          exact hh
  have hh := loop 100 0 (by omega)
  rw [show min 0 (ht S g + 1) = 0 by omega, if_neg (by omega), if_neg (by omega), show 0 - lo S g = 0 by omega, show wM 0 = -1 from if_pos rfl] at hh
  rw [s197]
  simp only [s197_0, s197_1, s197_2, s197_3, s197_5, s197_6, s197_8, s197_9, am_pu_s, am_pu_n, va_rf_s, va_rf_n, Option.bind_some, true_or, or_true, eq_self, if_true, if_false, ite_self, ite_true, ite_false, ↓reduceIte, reduceCtorEq, Nat.reduceEqDiff, Nat.reduceAdd, Nat.reduceLT, Nat.reduceLeDiff, Nat.reduceMul, Nat.reduceSub, not_true_eq_false, not_false_eq_true, and_self, and_true, true_and, and_false, false_and]
  exact hh
end TO
