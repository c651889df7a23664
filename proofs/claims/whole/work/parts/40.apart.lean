/-! how far two TUNES are apart -/
def sEd (B C : Nat → Nat) : Nat → Nat → Nat
  | 0, j => j
  | i + 1, 0 => i + 1
  | i + 1, j + 1 => min (if B i = C j then sEd B C i j else sEd B C i j + 1) (1 + min (sEd B C i (j + 1)) (sEd B C (i + 1) j))
theorem sEd_le (B C : Nat → Nat) : ∀ i j, sEd B C i j ≤ i + j
  | 0, j => by unfold sEd; omega
  | i + 1, 0 => by unfold sEd; omega
  | i + 1, j + 1 => by
    have h1 := sEd_le B C i (j + 1)
    unfold sEd
    omega
def sRw (B C : Nat → Nat) (i j k : Nat) : Nat := if k < j then sEd B C (i + 1) k else sEd B C i k
theorem nI_mi {a b : Nat} (ha : a < 2147483648) (hb : b < 2147483648) : (if nI b < nI a then nI b else nI a) = nI (min a b) := by
  by_cases h : b < a
  · rw [if_pos (nI_lt h ha), Nat.min_eq_right (by omega)]
  · rw [if_neg (nI_nlt (by omega) hb), Nat.min_eq_left (by omega)]
theorem nI_mi' {a b : Nat} (ha : a < 2147483648) (hb : b < 2147483648) : (if nI b ≤ nI a then nI b else nI a) = nI (min a b) := by
  by_cases h : b ≤ a
  · rw [if_pos (nI_le h ha), Nat.min_eq_right (by omega)]
  · rw [if_neg (nI_ge (by omega) hb), Nat.min_eq_left (by omega)]
theorem sRw_w {σ : am_M} {B C : Nat → Nat} {o i j n : Nat} (hj : 1 ≤ j) (h : ∀ k, k ≤ n → am_I σ o k = nI (sRw B C i j k)) : ∀ k, k ≤ n → am_I (am_wI σ o j (nI (sEd B C (i + 1) j))) o k = nI (sRw B C i (j + 1) k) := by
  intro k hk
  rw [am_I_wI]
  unfold sRw
  by_cases e : k = j
  · rw [if_pos ⟨rfl, e⟩, if_pos (by omega), e]
  · rw [if_neg (fun q => e q.2), h k hk]
    unfold sRw
    by_cases h2 : k < j
    · rw [if_pos h2, if_pos (by omega)]
    · rw [if_neg h2, if_neg (by omega)]
section AP
variable {X : am_X} {d N a b : Nat} {σ : am_M} {S : am_St}
theorem m17 (h : cRep S σ) (hO : sOK N S) (ha : a < 4) (hb : b < 4) : ∃ σ', am_v X (d + 2) 17 [.ref (55 : Nat), .ref (15 + 3 * a), .ref (15 + 3 * b)] σ = some (some (.int (nI (sEd (S 0 a) (S 0 b) (S 1 a 0) (S 1 b 0)))), σ') ∧ am_pr nsA σ σ' := by
  have hA := sO_N hO ha
  have hB := sO_N hO hb
  have first : ∀ m k σ1, k + m = S 1 b 0 + 1 → am_pr nsA σ σ1 → (∀ i, i < k → am_I σ1 56 i = nI i) → ∃ σ', am_w X (d + 1) 17 2 [some (.ref (55 : Nat)), some (.ref (15 + 3 * a)), some (.ref (15 + 3 * b)), some (.int (nI k)), none, none, none] [] σ1 = am_w X (d + 1) 17 23 [some (.ref (55 : Nat)), some (.ref (15 + 3 * a)), some (.ref (15 + 3 * b)), some (.int (nI (S 1 b 0 + 1))), none, none, none] [] σ' ∧ am_pr nsA σ σ' ∧ ∀ i, i ≤ S 1 b 0 → am_I σ' 56 i = nI i := by
    intro m
    induction m with
    | zero =>
      intro k σ1 hk hp1 hr
      have hk : k = S 1 b 0 + 1 := by omega
      subst hk
      have h1 := h.prA hp1
      have e1 : nI (S 1 b 0) < nI (S 1 b 0 + 1) := nI_lt (by omega) (by omega)
      refine ⟨σ1, ?_, hp1, fun i hi => hr i (by omega)⟩
      rw [s17_2]
      simp only [s17_3, s17_4, s17_7, s17_10, am_pu_s, am_pu_n, va_rf_s, va_rf_n, Option.bind_some, true_or, or_true, eq_self, if_true, if_false, ite_self, ite_true, ite_false, ↓reduceIte, reduceCtorEq, Nat.reduceEqDiff, Nat.reduceAdd, Nat.reduceLT, Nat.reduceLeDiff, Nat.reduceMul, Nat.reduceSub, not_true_eq_false, not_false_eq_true, and_self, and_true, true_and, and_false, false_and, kdT h1.1 (isTu8 hb), cR_N h1 hb, e1]
    | succ m ih =>
      intro k σ1 hk hp1 hr
      have h1 := h.prA hp1
      have e1 : ¬ nI (S 1 b 0) < nI k := nI_nlt (by omega) (by omega)
      rw [s17_2]
      simp only [s17_3, s17_4, s17_7, s17_10, s17_11, s17_14, s17_15, s17_16, s17_17, s17_20, am_pu_s, am_pu_n, va_rf_s, va_rf_n, Option.bind_some, true_or, or_true, eq_self, if_true, if_false, ite_self, ite_true, ite_false, ↓reduceIte, reduceCtorEq, Nat.reduceEqDiff, Nat.reduceAdd, Nat.reduceLT, Nat.reduceLeDiff, Nat.reduceMul, Nat.reduceSub, not_true_eq_false, not_false_eq_true, and_self, and_true, true_and, and_false, false_and, nI_add, h1.1, kd55, rr55_0, kdT h1.1 (isTu8 hb), cR_N h1 hb, e1, ix56 h1.1 (show k < 61 by omega), nI_cl (show k < 2147483648 by omega)]
      exact ih (k + 1) _ (by omega) (hp1.w (by rfl)) (fun i hi => by
        rw [am_I_wI]
        by_cases e : i = k
        · rw [if_pos ⟨rfl, e⟩, e]
        · rw [if_neg (fun q => e q.2)]
          exact hr i (by omega))
  have inner : ∀ i, i < S 1 a 0 → ∀ m j σ1 l6, 1 ≤ j → j + m = S 1 b 0 + 1 → am_pr nsA σ σ1 → (∀ k, k ≤ S 1 b 0 → am_I σ1 56 k = nI (sRw (S 0 a) (S 0 b) i j k)) → ∃ σ' l4 l5 l6', am_w X (d + 1) 17 51 [some (.ref (55 : Nat)), some (.ref (15 + 3 * a)), some (.ref (15 + 3 * b)), some (.int (nI (i + 1))), some (.int (nI (sEd (S 0 a) (S 0 b) i (j - 1)))), some (.int (nI j)), l6] [] σ1 = am_w X (d + 1) 17 132 [some (.ref (55 : Nat)), some (.ref (15 + 3 * a)), some (.ref (15 + 3 * b)), some (.int (nI (i + 1))), l4, l5, l6'] [] σ' ∧ am_pr nsA σ σ' ∧ ∀ k, k ≤ S 1 b 0 → am_I σ' 56 k = nI (sEd (S 0 a) (S 0 b) (i + 1) k) := by
    intro i hi m
    induction m with
    | zero =>
      intro j σ1 l6 hj hk hp1 hr
      have hk : j = S 1 b 0 + 1 := by omega
      subst hk
      have h1 := h.prA hp1
      have e1 : nI (S 1 b 0) < nI (S 1 b 0 + 1) := nI_lt (by omega) (by omega)
      refine ⟨σ1, some (.int (nI (sEd (S 0 a) (S 0 b) i (S 1 b 0 + 1 - 1)))), some (.int (nI (S 1 b 0 + 1))), l6, ?_, hp1, fun k hk => by
        rw [hr k hk]
        unfold sRw
        rw [if_pos (by omega)]⟩
      rw [s17_51]
      simp only [s17_53, s17_54, s17_57, s17_60, am_pu_s, am_pu_n, va_rf_s, va_rf_n, Option.bind_some, true_or, or_true, eq_self, if_true, if_false, ite_self, ite_true, ite_false, ↓reduceIte, reduceCtorEq, Nat.reduceEqDiff, Nat.reduceAdd, Nat.reduceLT, Nat.reduceLeDiff, Nat.reduceMul, Nat.reduceSub, not_true_eq_false, not_false_eq_true, and_self, and_true, true_and, and_false, false_and, kdT h1.1 (isTu8 hb), cR_N h1 hb, e1]
    | succ m ih =>
      intro j σ1 l6 hj hk hp1 hr
      obtain ⟨t, rfl⟩ : ∃ t, j = t + 1 := ⟨j - 1, by omega⟩
      have h1 := h.prA hp1
      have e1 : ¬ nI (S 1 b 0) < nI (t + 1) := nI_nlt (by omega) (by omega)
      have r1 := hr (t + 1) (by omega)
      have r2 := hr t (by omega)
      have r1 : am_I σ1 56 (t + 1) = nI (sEd (S 0 a) (S 0 b) i (t + 1)) := by
        rw [r1]; unfold sRw; rw [if_neg (by omega)]
      have r2 : am_I σ1 56 t = nI (sEd (S 0 a) (S 0 b) (i + 1) t) := by
        rw [r2]; unfold sRw; rw [if_pos (by omega)]
      have q1 := sEd_le (S 0 a) (S 0 b) i (t + 1)
      have q2 := sEd_le (S 0 a) (S 0 b) (i + 1) t
      have q3 := sEd_le (S 0 a) (S 0 b) i t
      have e2 : (nI (S 0 a i) = nI (S 0 b t)) = (S 0 a i = S 0 b t) := nI_EQ (by have := sO_B hO ha (show i < 60 by omega); omega) (by have := sO_B hO hb (show t < 60 by omega); omega)
      have e3 : nI (i + 1) - nI 1 = nI i := pk_sub (by omega)
      have e4 : nI (t + 1) - nI 1 = nI t := pk_sub (by omega)
      have e5 : (if nI (sEd (S 0 a) (S 0 b) (i + 1) t) < nI (sEd (S 0 a) (S 0 b) i (t + 1)) then nI (sEd (S 0 a) (S 0 b) (i + 1) t) else nI (sEd (S 0 a) (S 0 b) i (t + 1))) = nI (min (sEd (S 0 a) (S 0 b) i (t + 1)) (sEd (S 0 a) (S 0 b) (i + 1) t)) := nI_mi (by omega) (by omega)
      have hI := ih (t + 2) (am_wI σ1 56 (t + 1) (nI (sEd (S 0 a) (S 0 b) (i + 1) (t + 1)))) 
      rw [s17_51]
      by_cases hc : S 0 a i = S 0 b t
      · have e6 := nI_mi (a := sEd (S 0 a) (S 0 b) i t) (b := 1 + min (sEd (S 0 a) (S 0 b) i (t + 1)) (sEd (S 0 a) (S 0 b) (i + 1) t)) (by omega) (by omega)
        have e7 : sEd (S 0 a) (S 0 b) (i + 1) (t + 1) = min (sEd (S 0 a) (S 0 b) i t) (1 + min (sEd (S 0 a) (S 0 b) i (t + 1)) (sEd (S 0 a) (S 0 b) (i + 1) t)) := by
          rw [sEd, if_pos hc]
        simp only [s17_53, s17_54, s17_57, s17_60, s17_61, s17_62, s17_63, s17_64, s17_67, s17_68, s17_70, s17_71, s17_72, s17_75, s17_78, s17_80, s17_83, s17_85, s17_86, s17_87, s17_89, s17_90, s17_93, s17_95, s17_96, s17_98, s17_99, s17_102, s17_104, s17_106, s17_107, s17_109, s17_110, s17_113, s17_115, s17_116, s17_117, s17_118, s17_121, s17_122, s17_125, s17_126, s17_129, am_pu_s, am_pu_n, va_rf_s, va_rf_n, Option.bind_some, true_or, or_true, eq_self, if_true, if_false, ite_self, ite_true, ite_false, ↓reduceIte, reduceCtorEq, Nat.reduceEqDiff, Nat.reduceAdd, Nat.reduceLT, Nat.reduceLeDiff, Nat.reduceMul, Nat.reduceSub, not_true_eq_false, not_false_eq_true, and_self, and_true, true_and, and_false, false_and, nI_add, h1.1, kd55, rr55_0, kdT h1.1 (isTu8 ha), kdT h1.1 (isTu8 hb), cR_N h1 hb, e1, m51 h1.1 (isTu8 ha) (cR_T h1 ha) hA (show i ≤ 60 by omega), m51 h1.1 (isTu8 hb) (cR_T h1 hb) hB (show t ≤ 60 by omega), hi, show t < S 1 b 0 by omega, e2, e3, e4, hc, ix56 h1.1 (show t < 61 by omega), ix56 h1.1 (show t + 1 < 61 by omega), nI_cl (show t < 2147483648 by omega), nI_cl (show t + 1 < 2147483648 by omega), r1, r2, m218, e5, e6, ← e7, Nat.add_sub_cancel]
        exact hI _ (by omega) (by omega) (hp1.w (by rfl)) (sRw_w (by omega) hr)
      · have e6 := nI_mi (a := sEd (S 0 a) (S 0 b) i t + 1) (b := 1 + min (sEd (S 0 a) (S 0 b) i (t + 1)) (sEd (S 0 a) (S 0 b) (i + 1) t)) (by omega) (by omega)
        have e7 : sEd (S 0 a) (S 0 b) (i + 1) (t + 1) = min (sEd (S 0 a) (S 0 b) i t + 1) (1 + min (sEd (S 0 a) (S 0 b) i (t + 1)) (sEd (S 0 a) (S 0 b) (i + 1) t)) := by
          rw [sEd, if_neg hc]
        simp only [s17_53, s17_54, s17_57, s17_60, s17_61, s17_62, s17_63, s17_64, s17_67, s17_68, s17_70, s17_71, s17_72, s17_75, s17_78, s17_80, s17_83, s17_85, s17_86, s17_87, s17_89, s17_90, s17_93, s17_95, s17_96, s17_98, s17_99, s17_102, s17_104, s17_106, s17_107, s17_109, s17_110, s17_113, s17_115, s17_116, s17_117, s17_118, s17_121, s17_122, s17_125, s17_126, s17_129, am_pu_s, am_pu_n, va_rf_s, va_rf_n, Option.bind_some, true_or, or_true, eq_self, if_true, if_false, ite_self, ite_true, ite_false, ↓reduceIte, reduceCtorEq, Nat.reduceEqDiff, Nat.reduceAdd, Nat.reduceLT, Nat.reduceLeDiff, Nat.reduceMul, Nat.reduceSub, not_true_eq_false, not_false_eq_true, and_self, and_true, true_and, and_false, false_and, nI_add, h1.1, kd55, rr55_0, kdT h1.1 (isTu8 ha), kdT h1.1 (isTu8 hb), cR_N h1 hb, e1, m51 h1.1 (isTu8 ha) (cR_T h1 ha) hA (show i ≤ 60 by omega), m51 h1.1 (isTu8 hb) (cR_T h1 hb) hB (show t ≤ 60 by omega), hi, show t < S 1 b 0 by omega, e2, e3, e4, hc, ix56 h1.1 (show t < 61 by omega), ix56 h1.1 (show t + 1 < 61 by omega), nI_cl (show t < 2147483648 by omega), nI_cl (show t + 1 < 2147483648 by omega), r1, r2, m218, e5, e6, ← e7, Nat.add_sub_cancel]
        exact hI _ (by omega) (by omega) (hp1.w (by rfl)) (sRw_w (by omega) hr)
  have outer : ∀ m i σ1 l4 l5 l6, i + m = S 1 a 0 → am_pr nsA σ σ1 → (∀ k, k ≤ S 1 b 0 → am_I σ1 56 k = nI (sEd (S 0 a) (S 0 b) i k)) → ∃ σ', am_w X (d + 1) 17 25 [some (.ref (55 : Nat)), some (.ref (15 + 3 * a)), some (.ref (15 + 3 * b)), some (.int (nI (i + 1))), l4, l5, l6] [] σ1 = some (some (.int (nI (sEd (S 0 a) (S 0 b) (S 1 a 0) (S 1 b 0)))), σ') ∧ am_pr nsA σ σ' := by
    intro m
    induction m with
    | zero =>
      intro i σ1 l4 l5 l6 hk hp1 hr
      have hk : i = S 1 a 0 := by omega
      subst hk
      have h1 := h.prA hp1
      have e1 : nI (S 1 a 0) < nI (S 1 a 0 + 1) := nI_lt (by omega) (by omega)
      refine ⟨σ1, ?_, hp1⟩
      rw [s17_25]
      simp only [s17_0, s17_1, s17_3, s17_4, s17_7, s17_10, s17_11, s17_14, s17_15, s17_16, s17_17, s17_20, s17_23, s17_24, s17_26, s17_27, s17_30, s17_33, s17_34, s17_37, s17_38, s17_39, s17_41, s17_42, s17_45, s17_46, s17_47, s17_48, s17_49, s17_53, s17_54, s17_57, s17_60, s17_61, s17_62, s17_63, s17_64, s17_67, s17_68, s17_70, s17_71, s17_72, s17_75, s17_78, s17_80, s17_83, s17_85, s17_86, s17_87, s17_89, s17_90, s17_93, s17_95, s17_96, s17_98, s17_99, s17_102, s17_104, s17_106, s17_107, s17_109, s17_110, s17_113, s17_115, s17_116, s17_117, s17_118, s17_121, s17_122, s17_125, s17_126, s17_129, s17_132, s17_135, s17_138, s17_139, s17_142, s17_143, s17_146, s17_147, am_pu_s, am_pu_n, va_rf_s, va_rf_n, Option.bind_some, true_or, or_true, eq_self, if_true, if_false, ite_self, ite_true, ite_false, ↓reduceIte, reduceCtorEq, Nat.reduceEqDiff, Nat.reduceAdd, Nat.reduceLT, Nat.reduceLeDiff, Nat.reduceMul, Nat.reduceSub, not_true_eq_false, not_false_eq_true, and_self, and_true, true_and, and_false, false_and, h1.1, kd55, rr55_0, kdT h1.1 (isTu8 ha), kdT h1.1 (isTu8 hb), cR_N h1 ha, cR_N h1 hb, e1, ix56 h1.1 (show S 1 b 0 < 61 by omega), nI_cl (show S 1 b 0 < 2147483648 by omega), hr _ (Nat.le_refl _)]
    | succ m ih =>
      intro i σ1 l4 l5 l6 hk hp1 hr
      have h1 := h.prA hp1
      have e1 : ¬ nI (S 1 a 0) < nI (i + 1) := nI_nlt (by omega) (by omega)
      have r0 := hr 0 (by omega)
      obtain ⟨σ2, l4', l5', l6', e2, hp2, hr2⟩ := inner i (by omega) (S 1 b 0) 1 (am_wI σ1 56 0 (nI (i + 1))) l6 (by omega) (by omega) (hp1.w (by rfl)) (by
        intro k hk
        rw [am_I_wI]
        unfold sRw
        by_cases e : k = 0
        · rw [if_pos ⟨rfl, e⟩, if_pos (by omega), e, sEd]
        · rw [if_neg (fun q => e q.2), if_neg (by omega)]
          exact hr k hk)
      rw [s17_25]
      simp only [s17_26, s17_27, s17_30, s17_33, s17_34, s17_37, s17_38, s17_39, s17_41, s17_42, s17_45, s17_46, s17_47, s17_48, s17_49, am_pu_s, am_pu_n, va_rf_s, va_rf_n, Option.bind_some, true_or, or_true, eq_self, if_true, if_false, ite_self, ite_true, ite_false, ↓reduceIte, reduceCtorEq, Nat.reduceEqDiff, Nat.reduceAdd, Nat.reduceLT, Nat.reduceLeDiff, Nat.reduceMul, Nat.reduceSub, not_true_eq_false, not_false_eq_true, and_self, and_true, true_and, and_false, false_and, h1.1, kd55, rr55_0, kdT h1.1 (isTu8 ha), cR_N h1 ha, e1, ix56 h1.1 (show 0 < 61 by omega), nI_cl (show 0 < 2147483648 by decide), r0]
      rw [show (1 : Nat) - 1 = 0 from rfl] at e2
      rw [e2]
      simp only [s17_132, s17_135, am_pu_s, am_pu_n, va_rf_s, va_rf_n, Option.bind_some, true_or, or_true, eq_self, if_true, if_false, ite_self, ite_true, ite_false, ↓reduceIte, reduceCtorEq, Nat.reduceEqDiff, Nat.reduceAdd, Nat.reduceLT, Nat.reduceLeDiff, Nat.reduceMul, Nat.reduceSub, not_true_eq_false, not_false_eq_true, and_self, and_true, true_and, and_false, false_and, nI_add]
      exact ih (i + 1) σ2 l4' l5' l6' (by omega) hp2 hr2
  obtain ⟨σ1, e1, hp1, hr1⟩ := first (S 1 b 0 + 1) 0 σ (by omega) (am_pr.rf h.1) (fun i hi => absurd hi (by omega))
  obtain ⟨σ2, e2, hp2⟩ := outer (S 1 a 0) 0 σ1 none none none (by omega) hp1 (fun k hk => by rw [hr1 k hk, sEd])
  refine ⟨σ2, ?_, hp2⟩
  rw [s17]
  simp only [s17_0, s17_1, am_pu_s, am_pu_n, va_rf_s, va_rf_n, Option.bind_some, true_or, or_true, eq_self, if_true, if_false, ite_self, ite_true, ite_false, ↓reduceIte, reduceCtorEq, Nat.reduceEqDiff, Nat.reduceAdd, Nat.reduceLT, Nat.reduceLeDiff, Nat.reduceMul, Nat.reduceSub, not_true_eq_false, not_false_eq_true, and_self, and_true, true_and, and_false, false_and]
  rw [e1]
  simp only [s17_23, s17_24, am_pu_s, am_pu_n, va_rf_s, va_rf_n, Option.bind_some, true_or, or_true, eq_self, if_true, if_false, ite_self, ite_true, ite_false, ↓reduceIte, reduceCtorEq, Nat.reduceEqDiff, Nat.reduceAdd, Nat.reduceLT, Nat.reduceLeDiff, Nat.reduceMul, Nat.reduceSub, not_true_eq_false, not_false_eq_true, and_self, and_true, true_and, and_false, false_and]
  exact e2
theorem m165 (h : mRep S σ) (hO : sOK N S) (ha : a < 4) (hb : b < 4) : ∃ σ', am_v X (d + 2) 165 [.ref (66 : Nat), .int (nI a), .int (nI b)] σ = some (some (.int (nI (sEd (S 0 a) (S 0 b) (S 1 a 0) (S 1 b 0)))), σ') ∧ am_pr nsA σ σ' := by
  have hA := sO_N hO ha
  have hB := sO_N hO hb
  have first : ∀ m k σ1, k + m = S 1 b 0 + 1 → am_pr nsA σ σ1 → (∀ i, i < k → am_I σ1 85 i = nI i) → ∃ σ', am_w X (d + 1) 165 2 [some (.ref (66 : Nat)), some (.int (nI a)), some (.int (nI b)), some (.int (nI k)), none, none, none, none, none] [] σ1 = am_w X (d + 1) 165 25 [some (.ref (66 : Nat)), some (.int (nI a)), some (.int (nI b)), some (.int (nI (S 1 b 0 + 1))), none, none, none, none, none] [] σ' ∧ am_pr nsA σ σ' ∧ ∀ i, i ≤ S 1 b 0 → am_I σ' 85 i = nI i := by
    intro m
    induction m with
    | zero =>
      intro k σ1 hk hp1 hr
      have hk : k = S 1 b 0 + 1 := by omega
      subst hk
      have h1 := h.prA hp1
      have e1 : nI (S 1 b 0) < nI (S 1 b 0 + 1) := nI_lt (by omega) (by omega)
      refine ⟨σ1, ?_, hp1, fun i hi => hr i (by omega)⟩
      rw [s165_2]
      simp only [s165_3, s165_4, s165_7, s165_8, s165_9, am_pu_s, am_pu_n, va_rf_s, va_rf_n, Option.bind_some, true_or, or_true, eq_self, if_true, if_false, ite_self, ite_true, ite_false, ↓reduceIte, reduceCtorEq, Nat.reduceEqDiff, Nat.reduceAdd, Nat.reduceLT, Nat.reduceLeDiff, Nat.reduceMul, Nat.reduceSub, not_true_eq_false, not_false_eq_true, and_self, and_true, true_and, and_false, false_and, h1.1, kd66, rr66_1, ix68 h1.1 hb, nI_cl (show b < 2147483648 by omega), mR_N h1 hb, e1]
    | succ m ih =>
      intro k σ1 hk hp1 hr
      have h1 := h.prA hp1
      have e1 : ¬ nI (S 1 b 0) < nI k := nI_nlt (by omega) (by omega)
      rw [s165_2]
      simp only [s165_3, s165_4, s165_7, s165_8, s165_9, s165_12, s165_13, s165_16, s165_17, s165_18, s165_19, s165_22, am_pu_s, am_pu_n, va_rf_s, va_rf_n, Option.bind_some, true_or, or_true, eq_self, if_true, if_false, ite_self, ite_true, ite_false, ↓reduceIte, reduceCtorEq, Nat.reduceEqDiff, Nat.reduceAdd, Nat.reduceLT, Nat.reduceLeDiff, Nat.reduceMul, Nat.reduceSub, not_true_eq_false, not_false_eq_true, and_self, and_true, true_and, and_false, false_and, nI_add, h1.1, kd66, rr66_1, rr66_34, ix68 h1.1 hb, nI_cl (show b < 2147483648 by omega), mR_N h1 hb, e1, ix85 h1.1 (show k < 61 by omega), nI_cl (show k < 2147483648 by omega)]
      exact ih (k + 1) _ (by omega) (hp1.w (by rfl)) (fun i hi => by
        rw [am_I_wI]
        by_cases e : i = k
        · rw [if_pos ⟨rfl, e⟩, e]
        · rw [if_neg (fun q => e q.2)]
          exact hr i (by omega))
  have inner : ∀ i, i < S 1 a 0 → ∀ m j σ1 l6 l7 l8, 1 ≤ j → j + m = S 1 b 0 + 1 → am_pr nsA σ σ1 → (∀ k, k ≤ S 1 b 0 → am_I σ1 85 k = nI (sRw (S 0 a) (S 0 b) i j k)) → ∃ σ' l4 l5 l6' l7' l8', am_w X (d + 1) 165 55 [some (.ref (66 : Nat)), some (.int (nI a)), some (.int (nI b)), some (.int (nI (i + 1))), some (.int (nI (sEd (S 0 a) (S 0 b) i (j - 1)))), some (.int (nI j)), l6, l7, l8] [] σ1 = am_w X (d + 1) 165 168 [some (.ref (66 : Nat)), some (.int (nI a)), some (.int (nI b)), some (.int (nI (i + 1))), l4, l5, l6', l7', l8'] [] σ' ∧ am_pr nsA σ σ' ∧ ∀ k, k ≤ S 1 b 0 → am_I σ' 85 k = nI (sEd (S 0 a) (S 0 b) (i + 1) k) := by
    intro i hi m
    induction m with
    | zero =>
      intro j σ1 l6 l7 l8 hj hk hp1 hr
      have hk : j = S 1 b 0 + 1 := by omega
      subst hk
      have h1 := h.prA hp1
      have e1 : nI (S 1 b 0) < nI (S 1 b 0 + 1) := nI_lt (by omega) (by omega)
      refine ⟨σ1, some (.int (nI (sEd (S 0 a) (S 0 b) i (S 1 b 0 + 1 - 1)))), some (.int (nI (S 1 b 0 + 1))), l6, l7, l8, ?_, hp1, fun k hk => by
        rw [hr k hk]
        unfold sRw
        rw [if_pos (by omega)]⟩
      rw [s165_55]
      simp only [s165_57, s165_58, s165_61, s165_62, s165_63, s165_66, am_pu_s, am_pu_n, va_rf_s, va_rf_n, Option.bind_some, true_or, or_true, eq_self, if_true, if_false, ite_self, ite_true, ite_false, ↓reduceIte, reduceCtorEq, Nat.reduceEqDiff, Nat.reduceAdd, Nat.reduceLT, Nat.reduceLeDiff, Nat.reduceMul, Nat.reduceSub, not_true_eq_false, not_false_eq_true, and_self, and_true, true_and, and_false, false_and, h1.1, kd66, rr66_1, ix68 h1.1 hb, nI_cl (show b < 2147483648 by omega), mR_N h1 hb, e1]
    | succ m ih =>
      intro j σ1 l6 l7 l8 hj hk hp1 hr
      obtain ⟨t, rfl⟩ : ∃ t, j = t + 1 := ⟨j - 1, by omega⟩
      have h1 := h.prA hp1
      have e1 : ¬ nI (S 1 b 0) < nI (t + 1) := nI_nlt (by omega) (by omega)
      have r1 := hr (t + 1) (by omega)
      have r2 := hr t (by omega)
      have r1 : am_I σ1 85 (t + 1) = nI (sEd (S 0 a) (S 0 b) i (t + 1)) := by
        rw [r1]; unfold sRw; rw [if_neg (by omega)]
      have r2 : am_I σ1 85 t = nI (sEd (S 0 a) (S 0 b) (i + 1) t) := by
        rw [r2]; unfold sRw; rw [if_pos (by omega)]
      have q1 := sEd_le (S 0 a) (S 0 b) i (t + 1)
      have q2 := sEd_le (S 0 a) (S 0 b) (i + 1) t
      have q3 := sEd_le (S 0 a) (S 0 b) i t
      have e2 : (nI (S 0 a i) = nI (S 0 b t)) = (S 0 a i = S 0 b t) := nI_EQ (by have := sO_B hO ha (show i < 60 by omega); omega) (by have := sO_B hO hb (show t < 60 by omega); omega)
      have e3 : nI (i + 1) - nI 1 = nI i := pk_sub (by omega)
      have e4 : nI (t + 1) - nI 1 = nI t := pk_sub (by omega)
      have st1 : am_w X (d + 1) 165 55 [some (.ref (66 : Nat)), some (.int (nI a)), some (.int (nI b)), some (.int (nI (i + 1))), some (.int (nI (sEd (S 0 a) (S 0 b) i t))), some (.int (nI (t + 1))), l6, l7, l8] [] σ1 = am_w X (d + 1) 165 105 [some (.ref (66 : Nat)), some (.int (nI a)), some (.int (nI b)), some (.int (nI (i + 1))), some (.int (nI (sEd (S 0 a) (S 0 b) i t))), some (.int (nI (t + 1))), some (.int (nI (sEd (S 0 a) (S 0 b) i (t + 1)))), some (.int (nI (if S 0 a i = S 0 b t then sEd (S 0 a) (S 0 b) i t else sEd (S 0 a) (S 0 b) i t + 1))), l8] [] σ1 := by
        rw [s165_55]
        by_cases hc : S 0 a i = S 0 b t <;> simp only [s165_57, s165_58, s165_61, s165_62, s165_63, s165_66, s165_67, s165_70, s165_72, s165_73, s165_75, s165_77, s165_78, s165_79, s165_80, s165_81, s165_82, s165_85, s165_86, s165_87, s165_89, s165_90, s165_91, s165_94, s165_97, s165_98, s165_101, s165_102, s165_103, am_pu_s, am_pu_n, va_rf_s, va_rf_n, Option.bind_some, true_or, or_true, eq_self, if_true, if_false, ite_self, ite_true, ite_false, ↓reduceIte, reduceCtorEq, Nat.reduceEqDiff, Nat.reduceAdd, Nat.reduceLT, Nat.reduceLeDiff, Nat.reduceMul, Nat.reduceSub, not_true_eq_false, not_false_eq_true, and_self, and_true, true_and, and_false, false_and, Nat.add_zero, nI_add, h1.1, kd66, rr66_1, rr66_34, ix68 h1.1 hb, nI_cl (show b < 2147483648 by omega), mR_N h1 hb, e1, m154 h1 ha (show i < 60 by omega), m154 h1 hb (show t < 60 by omega), e2, e3, e4, hc, ix85 h1.1 (show t + 1 < 61 by omega), nI_cl (show t + 1 < 2147483648 by omega), r1]
      have st2 : ∀ l7, am_w X (d + 1) 165 105 [some (.ref (66 : Nat)), some (.int (nI a)), some (.int (nI b)), some (.int (nI (i + 1))), some (.int (nI (sEd (S 0 a) (S 0 b) i t))), some (.int (nI (t + 1))), some (.int (nI (sEd (S 0 a) (S 0 b) i (t + 1)))), l7, l8] [] σ1 = am_w X (d + 1) 165 137 [some (.ref (66 : Nat)), some (.int (nI a)), some (.int (nI b)), some (.int (nI (i + 1))), some (.int (nI (sEd (S 0 a) (S 0 b) i t))), some (.int (nI (t + 1))), some (.int (nI (sEd (S 0 a) (S 0 b) i (t + 1)))), l7, some (.int (nI (1 + min (sEd (S 0 a) (S 0 b) i (t + 1)) (sEd (S 0 a) (S 0 b) (i + 1) t))))] [] σ1 := by
        intro l7
        have e5 : (nI (sEd (S 0 a) (S 0 b) i (t + 1)) ≤ nI (sEd (S 0 a) (S 0 b) (i + 1) t)) = (sEd (S 0 a) (S 0 b) i (t + 1) ≤ sEd (S 0 a) (S 0 b) (i + 1) t) := nI_LE (by omega) (by omega)
        rw [s165_105]
        by_cases hc : sEd (S 0 a) (S 0 b) i (t + 1) ≤ sEd (S 0 a) (S 0 b) (i + 1) t
        · simp only [s165_106, s165_109, s165_111, s165_112, s165_113, s165_114, s165_116, s165_119, s165_120, s165_123, s165_125, s165_126, s165_127, s165_128, s165_131, s165_133, s165_134, s165_135, am_pu_s, am_pu_n, va_rf_s, va_rf_n, Option.bind_some, true_or, or_true, eq_self, if_true, if_false, ite_self, ite_true, ite_false, ↓reduceIte, reduceCtorEq, Nat.reduceEqDiff, Nat.reduceAdd, Nat.reduceLT, Nat.reduceLeDiff, Nat.reduceMul, Nat.reduceSub, not_true_eq_false, not_false_eq_true, and_self, and_true, true_and, and_false, false_and, nI_add, h1.1, kd66, rr66_34, e4, e5, hc, ix85 h1.1 (show t < 61 by omega), nI_cl (show t < 2147483648 by omega), r2, Nat.min_eq_left, Nat.add_comm 1]
        · simp only [s165_106, s165_109, s165_111, s165_112, s165_113, s165_114, s165_116, s165_119, s165_120, s165_123, s165_125, s165_126, s165_127, s165_128, s165_131, s165_133, s165_134, s165_135, am_pu_s, am_pu_n, va_rf_s, va_rf_n, Option.bind_some, true_or, or_true, eq_self, if_true, if_false, ite_self, ite_true, ite_false, ↓reduceIte, reduceCtorEq, Nat.reduceEqDiff, Nat.reduceAdd, Nat.reduceLT, Nat.reduceLeDiff, Nat.reduceMul, Nat.reduceSub, not_true_eq_false, not_false_eq_true, and_self, and_true, true_and, and_false, false_and, nI_add, h1.1, kd66, rr66_34, e4, e5, hc, ix85 h1.1 (show t < 61 by omega), nI_cl (show t < 2147483648 by omega), r2, Nat.min_eq_right (show sEd (S 0 a) (S 0 b) (i + 1) t ≤ sEd (S 0 a) (S 0 b) i (t + 1) by omega), Nat.add_comm 1]
      have st3 : ∀ x y, x < 1000 → y < 1000 → am_w X (d + 1) 165 137 [some (.ref (66 : Nat)), some (.int (nI a)), some (.int (nI b)), some (.int (nI (i + 1))), some (.int (nI (sEd (S 0 a) (S 0 b) i t))), some (.int (nI (t + 1))), some (.int (nI (sEd (S 0 a) (S 0 b) i (t + 1)))), some (.int (nI x)), some (.int (nI y))] [] σ1 = am_w X (d + 1) 165 55 [some (.ref (66 : Nat)), some (.int (nI a)), some (.int (nI b)), some (.int (nI (i + 1))), some (.int (nI (sEd (S 0 a) (S 0 b) i (t + 1)))), some (.int (nI (t + 2))), some (.int (nI (sEd (S 0 a) (S 0 b) i (t + 1)))), some (.int (nI x)), some (.int (nI y))] [] (am_wI σ1 85 (t + 1) (nI (min x y))) := by
        intro x y hx hy
        have e5 : (nI y ≤ nI x) = (y ≤ x) := nI_LE (by omega) (by omega)
        rw [s165_137]
        by_cases hc : y ≤ x
        · simp only [s165_138, s165_141, s165_143, s165_145, s165_147, s165_150, s165_152, s165_155, s165_157, s165_158, s165_160, s165_162, s165_165, am_pu_s, am_pu_n, va_rf_s, va_rf_n, Option.bind_some, true_or, or_true, eq_self, if_true, if_false, ite_self, ite_true, ite_false, ↓reduceIte, reduceCtorEq, Nat.reduceEqDiff, Nat.reduceAdd, Nat.reduceLT, Nat.reduceLeDiff, Nat.reduceMul, Nat.reduceSub, not_true_eq_false, not_false_eq_true, and_self, and_true, true_and, and_false, false_and, nI_add, h1.1, kd66, rr66_34, e5, hc, ix85 h1.1 (show t + 1 < 61 by omega), nI_cl (show t + 1 < 2147483648 by omega), Nat.min_eq_right]
        · simp only [s165_138, s165_141, s165_143, s165_145, s165_147, s165_150, s165_152, s165_155, s165_157, s165_158, s165_160, s165_162, s165_165, am_pu_s, am_pu_n, va_rf_s, va_rf_n, Option.bind_some, true_or, or_true, eq_self, if_true, if_false, ite_self, ite_true, ite_false, ↓reduceIte, reduceCtorEq, Nat.reduceEqDiff, Nat.reduceAdd, Nat.reduceLT, Nat.reduceLeDiff, Nat.reduceMul, Nat.reduceSub, not_true_eq_false, not_false_eq_true, and_self, and_true, true_and, and_false, false_and, nI_add, h1.1, kd66, rr66_34, e5, hc, ix85 h1.1 (show t + 1 < 61 by omega), nI_cl (show t + 1 < 2147483648 by omega), Nat.min_eq_left (show x ≤ y by omega)]
      have hI := ih (t + 2) (am_wI σ1 85 (t + 1) (nI (sEd (S 0 a) (S 0 b) (i + 1) (t + 1))))
      have e7 : sEd (S 0 a) (S 0 b) (i + 1) (t + 1) = min (if S 0 a i = S 0 b t then sEd (S 0 a) (S 0 b) i t else sEd (S 0 a) (S 0 b) i t + 1) (1 + min (sEd (S 0 a) (S 0 b) i (t + 1)) (sEd (S 0 a) (S 0 b) (i + 1) t)) := by
        rw [sEd]
      rw [show t + 1 - 1 = t from rfl, st1, st2, st3 _ _ (by split <;> omega) (by omega), ← e7]
      exact hI _ _ _ (by omega) (by omega) (hp1.w (by rfl)) (sRw_w (by omega) hr)
  have outer : ∀ m i σ1 l4 l5 l6 l7 l8, i + m = S 1 a 0 → am_pr nsA σ σ1 → (∀ k, k ≤ S 1 b 0 → am_I σ1 85 k = nI (sEd (S 0 a) (S 0 b) i k)) → ∃ σ', am_w X (d + 1) 165 27 [some (.ref (66 : Nat)), some (.int (nI a)), some (.int (nI b)), some (.int (nI (i + 1))), l4, l5, l6, l7, l8] [] σ1 = some (some (.int (nI (sEd (S 0 a) (S 0 b) (S 1 a 0) (S 1 b 0)))), σ') ∧ am_pr nsA σ σ' := by
    intro m
    induction m with
    | zero =>
      intro i σ1 l4 l5 l6 l7 l8 hk hp1 hr
      have hk : i = S 1 a 0 := by omega
      subst hk
      have h1 := h.prA hp1
      have e1 : nI (S 1 a 0) < nI (S 1 a 0 + 1) := nI_lt (by omega) (by omega)
      refine ⟨σ1, ?_, hp1⟩
      rw [s165_27]
      simp only [s165_28, s165_29, s165_32, s165_33, s165_34, am_pu_s, am_pu_n, va_rf_s, va_rf_n, Option.bind_some, true_or, or_true, eq_self, if_true, if_false, ite_self, ite_true, ite_false, ↓reduceIte, reduceCtorEq, Nat.reduceEqDiff, Nat.reduceAdd, Nat.reduceLT, Nat.reduceLeDiff, Nat.reduceMul, Nat.reduceSub, not_true_eq_false, not_false_eq_true, and_self, and_true, true_and, and_false, false_and, h1.1, kd66, rr66_1, rr66_34, ix68 h1.1 ha, ix68 h1.1 hb, nI_cl (show a < 2147483648 by omega), nI_cl (show b < 2147483648 by omega), mR_N h1 ha, mR_N h1 hb, e1]
      simp only [s165_174, s165_175, s165_178, s165_179, s165_182, s165_183, s165_184, s165_185, am_pu_s, am_pu_n, va_rf_s, va_rf_n, Option.bind_some, true_or, or_true, eq_self, if_true, if_false, ite_self, ite_true, ite_false, ↓reduceIte, reduceCtorEq, Nat.reduceEqDiff, Nat.reduceAdd, Nat.reduceLT, Nat.reduceLeDiff, Nat.reduceMul, Nat.reduceSub, not_true_eq_false, not_false_eq_true, and_self, and_true, true_and, and_false, false_and, h1.1, kd66, rr66_1, rr66_34, ix68 h1.1 hb, nI_cl (show b < 2147483648 by omega), mR_N h1 hb, ix85 h1.1 (show S 1 b 0 < 61 by omega), nI_cl (show S 1 b 0 < 2147483648 by omega), hr _ (Nat.le_refl _)]
    | succ m ih =>
      intro i σ1 l4 l5 l6 l7 l8 hk hp1 hr
      have h1 := h.prA hp1
      have e1 : ¬ nI (S 1 a 0) < nI (i + 1) := nI_nlt (by omega) (by omega)
      have r0 := hr 0 (by omega)
      obtain ⟨σ2, l4', l5', l6', l7', l8', e2, hp2, hr2⟩ := inner i (by omega) (S 1 b 0) 1 (am_wI σ1 85 0 (nI (i + 1))) l6 l7 l8 (by omega) (by omega) (hp1.w (by rfl)) (by
        intro k hk
        rw [am_I_wI]
        unfold sRw
        by_cases e : k = 0
        · rw [if_pos ⟨rfl, e⟩, if_pos (by omega), e, sEd]
        · rw [if_neg (fun q => e q.2), if_neg (by omega)]
          exact hr k hk)
      rw [s165_27]
      simp only [s165_28, s165_29, s165_32, s165_33, s165_34, s165_37, s165_38, s165_41, s165_42, s165_43, s165_45, s165_46, s165_49, s165_50, s165_51, s165_52, s165_53, am_pu_s, am_pu_n, va_rf_s, va_rf_n, Option.bind_some, true_or, or_true, eq_self, if_true, if_false, ite_self, ite_true, ite_false, ↓reduceIte, reduceCtorEq, Nat.reduceEqDiff, Nat.reduceAdd, Nat.reduceLT, Nat.reduceLeDiff, Nat.reduceMul, Nat.reduceSub, not_true_eq_false, not_false_eq_true, and_self, and_true, true_and, and_false, false_and, h1.1, kd66, rr66_1, rr66_34, ix68 h1.1 ha, nI_cl (show a < 2147483648 by omega), mR_N h1 ha, e1, ix85 h1.1 (show 0 < 61 by omega), nI_cl (show 0 < 2147483648 by decide), r0]
      rw [show (1 : Nat) - 1 = 0 from rfl] at e2
      rw [e2]
      simp only [s165_168, s165_171, am_pu_s, am_pu_n, va_rf_s, va_rf_n, Option.bind_some, true_or, or_true, eq_self, if_true, if_false, ite_self, ite_true, ite_false, ↓reduceIte, reduceCtorEq, Nat.reduceEqDiff, Nat.reduceAdd, Nat.reduceLT, Nat.reduceLeDiff, Nat.reduceMul, Nat.reduceSub, not_true_eq_false, not_false_eq_true, and_self, and_true, true_and, and_false, false_and, nI_add]
      exact ih (i + 1) σ2 l4' l5' l6' l7' l8' (by omega) hp2 hr2
  obtain ⟨σ1, e1, hp1, hr1⟩ := first (S 1 b 0 + 1) 0 σ (by omega) (am_pr.rf h.1) (fun i hi => absurd hi (by omega))
  obtain ⟨σ2, e2, hp2⟩ := outer (S 1 a 0) 0 σ1 none none none none none (by omega) hp1 (fun k hk => by rw [hr1 k hk, sEd])
  refine ⟨σ2, ?_, hp2⟩
  rw [s165]
  simp only [s165_0, s165_1, am_pu_s, am_pu_n, va_rf_s, va_rf_n, Option.bind_some, true_or, or_true, eq_self, if_true, if_false, ite_self, ite_true, ite_false, ↓reduceIte, reduceCtorEq, Nat.reduceEqDiff, Nat.reduceAdd, Nat.reduceLT, Nat.reduceLeDiff, Nat.reduceMul, Nat.reduceSub, not_true_eq_false, not_false_eq_true, and_self, and_true, true_and, and_false, false_and]
  rw [e1]
  simp only [s165_25, s165_26, am_pu_s, am_pu_n, va_rf_s, va_rf_n, Option.bind_some, true_or, or_true, eq_self, if_true, if_false, ite_self, ite_true, ite_false, ↓reduceIte, reduceCtorEq, Nat.reduceEqDiff, Nat.reduceAdd, Nat.reduceLT, Nat.reduceLeDiff, Nat.reduceMul, Nat.reduceSub, not_true_eq_false, not_false_eq_true, and_self, and_true, true_and, and_false, false_and]
  exact e2
def rApart (S : am_St) (v w : Int32) : Int32 := match tI S v, tI S w with
  | some a, some b => nI (sEd (S 0 a) (S 0 b) (S 1 a 0) (S 1 b 0))
  | _, _ => -101
variable {v w : Int32}
theorem c95 (h : cRep S σ) (hO : sOK N S) : ∃ σ', am_v X (d + 3) 95 [.ref (0 : Nat), .int v, .int w] σ = some (some (.int (rApart S v w)), σ') ∧ am_pr nsA σ σ' := by
  have hF := h.1
  unfold rApart
  rcases tI_c S v with ⟨b, hb, rfl, h0, e⟩ | e
  · rcases tI_c S w with ⟨g, hg, rfl, hg0, eg⟩ | eg
    · obtain ⟨σ2, e2, hp2⟩ := m17 (X := X) (d := d) h hO hb hg
      refine ⟨σ2, ?_, hp2⟩
      rw [s95]
      simp only [s95_0, s95_1, s95_4, s95_5, s95_8, s95_8n, s95_9, s95_10, s95_13, s95_14, s95_17, s95_17n, s95_19, s95_19n, s95_20n, s95_20, s95_23, s95_23n, s95_25n, s95_25, s95_28, s95_30, s95_31, s95_32, s95_35, s95_35n, s95_36, s95_36n, s95_38, s95_41, am_pu_s, am_pu_n, va_rf_s, va_rf_n, Option.bind_some, true_or, or_true, eq_self, if_true, if_false, ite_self, ite_true, ite_false, ↓reduceIte, reduceCtorEq, Nat.reduceEqDiff, Nat.reduceAdd, Nat.reduceLT, Nat.reduceLeDiff, Nat.reduceMul, Nat.reduceSub, not_true_eq_false, not_false_eq_true, and_self, and_true, true_and, and_false, false_and, hF, kd0, rr0_2, rr0_5, kd8, kd55, m76s h hO hb h0, m76s h hO hg hg0, e2, e, eg]
    · refine ⟨σ, ?_, am_pr.rf hF⟩
      rw [s95]
      simp only [s95_0, s95_1, s95_4, s95_5, s95_8, s95_8n, s95_9, s95_10, s95_13, s95_14, s95_17, s95_17n, s95_19, s95_19n, s95_20n, s95_20, s95_23, s95_23n, s95_25n, s95_25, s95_28, s95_30, s95_31, s95_32, s95_35, s95_35n, s95_36, s95_36n, s95_38, s95_41, am_pu_s, am_pu_n, va_rf_s, va_rf_n, Option.bind_some, true_or, or_true, eq_self, if_true, if_false, ite_self, ite_true, ite_false, ↓reduceIte, reduceCtorEq, Nat.reduceEqDiff, Nat.reduceAdd, Nat.reduceLT, Nat.reduceLeDiff, Nat.reduceMul, Nat.reduceSub, not_true_eq_false, not_false_eq_true, and_self, and_true, true_and, and_false, false_and, hF, kd0, rr0_2, kd8, m76s h hO hb h0, m76n h eg, e, eg]
  · refine ⟨σ, ?_, am_pr.rf hF⟩
    rw [s95]
    rcases tI_c S w with ⟨g, hg, rfl, hg0, eg⟩ | eg
    · simp only [s95_0, s95_1, s95_4, s95_5, s95_8, s95_8n, s95_9, s95_10, s95_13, s95_14, s95_17, s95_17n, s95_19, s95_19n, s95_20n, s95_20, s95_23, s95_23n, s95_25n, s95_25, s95_28, s95_30, s95_31, s95_32, s95_35, s95_35n, s95_36, s95_36n, s95_38, s95_41, am_pu_s, am_pu_n, va_rf_s, va_rf_n, Option.bind_some, true_or, or_true, eq_self, if_true, if_false, ite_self, ite_true, ite_false, ↓reduceIte, reduceCtorEq, Nat.reduceEqDiff, Nat.reduceAdd, Nat.reduceLT, Nat.reduceLeDiff, Nat.reduceMul, Nat.reduceSub, not_true_eq_false, not_false_eq_true, and_self, and_true, true_and, and_false, false_and, hF, kd0, rr0_2, kd8, m76n h e, m76s h hO hg hg0, e]
    · simp only [s95_0, s95_1, s95_4, s95_5, s95_8, s95_8n, s95_9, s95_10, s95_13, s95_14, s95_17, s95_17n, s95_19, s95_19n, s95_20n, s95_20, s95_23, s95_23n, s95_25n, s95_25, s95_28, s95_30, s95_31, s95_32, s95_35, s95_35n, s95_36, s95_36n, s95_38, s95_41, am_pu_s, am_pu_n, va_rf_s, va_rf_n, Option.bind_some, true_or, or_true, eq_self, if_true, if_false, ite_self, ite_true, ite_false, ↓reduceIte, reduceCtorEq, Nat.reduceEqDiff, Nat.reduceAdd, Nat.reduceLT, Nat.reduceLeDiff, Nat.reduceMul, Nat.reduceSub, not_true_eq_false, not_false_eq_true, and_self, and_true, true_and, and_false, false_and, hF, kd0, rr0_2, kd8, m76n h e, m76n h eg, e]
theorem c166 (h : mRep S σ) (hO : sOK N S) : ∃ σ', am_v X (d + 3) 166 [.ref (66 : Nat), .int v, .int w] σ = some (some (.int (rApart S v w)), σ') ∧ am_pr nsA σ σ' := by
  have hF := h.1
  unfold rApart
  rcases tI_c S v with ⟨b, hb, rfl, h0, e⟩ | e
  · rcases tI_c S w with ⟨g, hg, rfl, hg0, eg⟩ | eg
    · obtain ⟨σ2, e2, hp2⟩ := m165 (X := X) (d := d) h hO hb hg
      refine ⟨σ2, ?_, hp2⟩
      rw [s166]
      simp only [s166_0, s166_1, s166_2, s166_5, s166_8, s166_9, s166_10, s166_13, s166_16, s166_17, s166_18, s166_19, s166_22, s166_25, s166_27, am_pu_s, am_pu_n, va_rf_s, va_rf_n, Option.bind_some, true_or, or_true, eq_self, if_true, if_false, ite_self, ite_true, ite_false, ↓reduceIte, reduceCtorEq, Nat.reduceEqDiff, Nat.reduceAdd, Nat.reduceLT, Nat.reduceLeDiff, Nat.reduceMul, Nat.reduceSub, not_true_eq_false, not_false_eq_true, and_self, and_true, true_and, and_false, false_and, hF, kd66, m152s h hO hb h0, m152s h hO hg hg0, nI_10, e2, e, eg]
    · refine ⟨σ, ?_, am_pr.rf hF⟩
      rw [s166]
      simp only [s166_0, s166_1, s166_2, s166_5, s166_8, s166_9, s166_10, s166_13, s166_16, s166_17, s166_18, s166_19, s166_22, s166_25, s166_27, am_pu_s, am_pu_n, va_rf_s, va_rf_n, Option.bind_some, true_or, or_true, eq_self, if_true, if_false, ite_self, ite_true, ite_false, ↓reduceIte, reduceCtorEq, Nat.reduceEqDiff, Nat.reduceAdd, Nat.reduceLT, Nat.reduceLeDiff, Nat.reduceMul, Nat.reduceSub, not_true_eq_false, not_false_eq_true, and_self, and_true, true_and, and_false, false_and, hF, kd66, m152s h hO hb h0, m152n h eg, nI_10, e, eg]
  · refine ⟨σ, ?_, am_pr.rf hF⟩
    rw [s166]
    simp only [s166_0, s166_1, s166_2, s166_5, s166_8, s166_9, s166_10, s166_13, s166_16, s166_17, s166_18, s166_19, s166_22, s166_25, s166_27, am_pu_s, am_pu_n, va_rf_s, va_rf_n, Option.bind_some, true_or, or_true, eq_self, if_true, if_false, ite_self, ite_true, ite_false, ↓reduceIte, reduceCtorEq, Nat.reduceEqDiff, Nat.reduceAdd, Nat.reduceLT, Nat.reduceLeDiff, Nat.reduceMul, Nat.reduceSub, not_true_eq_false, not_false_eq_true, and_self, and_true, true_and, and_false, false_and, hF, kd66, m152n h e, e]
end AP
