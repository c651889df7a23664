/-! which TUNE to try at a GATE; gate -/
def sPy (S : am_St) (b g : Nat) : Nat := sW (S 5 g 0) (S 0 b) (S 7 g 0) (S 1 b 0) - S 3 b g
def sWr (S : am_St) (g b : Nat) : Nat := max (min (ht S g) (sPy S b g) + 1 - lo S g) (ht S g + 1 - lo S g - (min (ht S g) (sPy S b g) + 1 - lo S g))
def sTr (S : am_St) (g : Nat) : Nat → Nat × Nat
  | 0 => (0, 268435456)
  | b + 1 => if 0 < S 1 b 0 ∧ sWr S g b < (sTr S g b).2 then (b + 1, sWr S g b) else sTr S g b
theorem sWr_le (S : am_St) (g b : Nat) : sWr S g b ≤ 100 := by
  have := ht_le S g
  unfold sWr
  omega
theorem sTr_2 (S : am_St) (g : Nat) : ∀ b, ((sTr S g b).1 = 0 → (sTr S g b).2 = 268435456) ∧ (¬ (sTr S g b).1 = 0 → (sTr S g b).2 ≤ 100) ∧ (sTr S g b).1 ≤ b
  | 0 => ⟨fun _ => rfl, fun h => absurd rfl h, Nat.le_refl _⟩
  | b + 1 => by
    have h := sTr_2 S g b
    have h2 := sWr_le S g b
    unfold sTr
    split
    · exact ⟨fun q => by dsimp only at q; omega, fun _ => h2, Nat.le_refl _⟩
    · exact ⟨h.1, h.2.1, by have := h.2.2; omega⟩
def rTry (S : am_St) (g : Nat) : Int32 := if ht S g + 1 - lo S g = 0 then -1 else wM (sTr S g 4).1
section TR
variable {X : am_X} {d N g b : Nat} {σ : am_M} {S : am_St}
theorem sPy_le (hO : sOK N S) (hb : b < 4) : sPy S b g ≤ 1260 := by
  have h4 := sW_le (S 5 g 0) (S 0 b) (S 7 g 0) (S 1 b 0)
  have h5 := sO_N hO hb
  unfold sPy
  omega
theorem m119 (h : cRep S σ) (hO : sOK N S) (hg : g < 4) : ∃ σ', am_v X (d + 6) 119 [.ref (0 : Nat), .ref (27 + g)] σ = some (some (.int (rTry S g)), σ') ∧ am_pr nsA σ σ' := by
  have b1 := lo_le (g := g) hO
  have b2 := ht_le S g
  have hF := h.1
  unfold rTry
  have e0 : (nI (ht S g + 1 - lo S g) = nI 0) = (ht S g + 1 - lo S g = 0) := nI_EQ (by omega) (by decide)
  by_cases h0 : ht S g + 1 - lo S g = 0
  · refine ⟨σ, ?_, am_pr.rf hF⟩
    rw [if_pos h0, s119]
    simp only [s119_0, s119_1, s119_4, s119_7, s119_8, s119_11, s119_14, s119_17, s119_18, am_pu_s, am_pu_n, va_rf_s, va_rf_n, Option.bind_some, true_or, or_true, eq_self, if_true, if_false, ite_self, ite_true, ite_false, ↓reduceIte, reduceCtorEq, Nat.reduceEqDiff, Nat.reduceAdd, Nat.reduceLT, Nat.reduceLeDiff, Nat.reduceMul, Nat.reduceSub, not_true_eq_false, not_false_eq_true, and_self, and_true, true_and, and_false, false_and, hF, kd0, rr0_2, kd8, rr8_2, kd11, kdG hF (isGa8 hg), cR_no h hg, m44 h hO hg, e0, h0]
  · rw [if_neg h0]
    have loop : ∀ m k σ1 l5 l6, k + m = 4 → am_pr nsA σ σ1 → ∃ σ', am_w X (d + 5) 119 26 [some (.ref (0 : Nat)), some (.ref (27 + g)), some (.int (wM (sTr S g k).1)), some (.int (nI (if (sTr S g k).1 = 0 then 0 else (sTr S g k).2))), some (.int (nI k)), l5, l6] [] σ1 = some (some (.int (wM (sTr S g 4).1)), σ') ∧ am_pr nsA σ σ' := by
      intro m
      induction m with
      | zero =>
        intro k σ1 l5 l6 hk hp1
        have hk : k = 4 := by omega
        subst hk
        refine ⟨σ1, ?_, hp1⟩
        rw [s119_26]
        simp only [s119_28, s119_29, s119_101, s119_102, am_pu_s, am_pu_n, va_rf_s, va_rf_n, Option.bind_some, true_or, or_true, eq_self, if_true, if_false, ite_self, ite_true, ite_false, ↓reduceIte, reduceCtorEq, Nat.reduceEqDiff, Nat.reduceAdd, Nat.reduceLT, Nat.reduceLeDiff, Nat.reduceMul, Nat.reduceSub, not_true_eq_false, not_false_eq_true, and_self, and_true, true_and, and_false, false_and, nI_LE]
      | succ m ih =>
        intro k σ1 l5 l6 hk hp1
        have h1 := h.prA hp1
        have hk4 : k < 4 := by omega
        have h2 : ¬ nI 4 ≤ nI k := nI_ge (by omega) (by decide)
        rw [s119_26]
        by_cases h3 : 0 < S 1 k 0
        · have hwd := sO_Wd hO hg
          obtain ⟨σ2, e2, hp2⟩ := m10 (X := X) (d := d) h1.1 (w := S 7 g 0) (isTu8 hk4) (cR_T h1 hk4) (sO_N hO hk4) (fun j hj => sO_B hO hk4 hj) (isGa8 hg) hg (cR_no h1 hg) (cR_K h1 hg) (sO_K hO hg) (by omega) (sO_W hO hk4 hg)
          have h8 := h1.prA hp2
          have p1 := sPy_le (g := g) hO hk4
          rw [← sPy] at e2
          have m1 : am_v X (d + 5) 45 [.ref (11 : Nat), .int (nI g), .int (nI (sPy S k g))] σ2 = some (some (.int (nI (sWr S g k))), σ2) := m45 (X := X) (d := d + 1) h8 hO hg (p := sPy S k g) (by omega)
          have w1 := sWr_le S g k
          have t1 := sTr_2 S g k
          have hI := ih (k + 1) σ2 (some (.ref (15 + 3 * k))) (some (.int (nI (sWr S g k)))) (by omega) (hp1.tr hp2)
          rw [sTr] at hI
          by_cases c1 : (sTr S g k).1 = 0
          · have q1 : wM (sTr S g k).1 = -1 := if_pos c1
            have q2 := t1.1 c1
            rw [if_pos ⟨h3, by omega⟩] at hI
            dsimp only at hI
            rw [if_neg (by omega), show wM (k + 1) = nI k from if_neg (by omega)] at hI
            simp only [s119_28, s119_29, s119_32, s119_33, s119_36, s119_38, s119_41, s119_41n, s119_43, s119_43n, s119_45n, s119_45, s119_48, s119_49, s119_52, s119_55, s119_56, s119_59, s119_60, s119_63, s119_63n, s119_65, s119_66, s119_67, s119_70, s119_73, s119_76, s119_78, s119_79, s119_80, s119_83, s119_85, s119_86, s119_89, s119_91, s119_92, s119_94, s119_95, s119_98, am_pu_s, am_pu_n, va_rf_s, va_rf_n, Option.bind_some, true_or, or_true, eq_self, if_true, if_false, ite_self, ite_true, ite_false, ↓reduceIte, reduceCtorEq, Nat.reduceEqDiff, Nat.reduceAdd, Nat.reduceLT, Nat.reduceLeDiff, Nat.reduceMul, Nat.reduceSub, not_true_eq_false, not_false_eq_true, and_self, and_true, true_and, and_false, false_and, nI_add, h1.1, h8.1, kd0, rr0_2, kd8, rr8_2, kd11, rr0_4, kd54, h2, m76s h1 hO hk4 h3, kdG h1.1 (isGa8 hg), cR_no h1 hg, cR_Wd h1 hg, e2, m1, q1]
            exact hI
          · have q1 : wM (sTr S g k).1 = nI ((sTr S g k).1 - 1) := if_neg c1
            have q2 := t1.2.1 c1
            have q3 : (nI ((sTr S g k).1 - 1) = -1) = False := nI_m1 (by omega)
            have q4 : (nI (sTr S g k).2 ≤ nI (sWr S g k)) = ((sTr S g k).2 ≤ sWr S g k) := nI_LE (by omega) (by omega)
            by_cases c2 : sWr S g k < (sTr S g k).2
            · have c3 : ¬ (sTr S g k).2 ≤ sWr S g k := by omega
              rw [if_pos ⟨h3, c2⟩] at hI
              dsimp only at hI
              rw [if_neg (by omega), show wM (k + 1) = nI k from if_neg (by omega)] at hI
              simp only [s119_28, s119_29, s119_32, s119_33, s119_36, s119_38, s119_41, s119_41n, s119_43, s119_43n, s119_45n, s119_45, s119_48, s119_49, s119_52, s119_55, s119_56, s119_59, s119_60, s119_63, s119_63n, s119_65, s119_66, s119_67, s119_70, s119_73, s119_76, s119_78, s119_79, s119_80, s119_83, s119_85, s119_86, s119_89, s119_91, s119_92, s119_94, s119_95, s119_98, am_pu_s, am_pu_n, va_rf_s, va_rf_n, Option.bind_some, true_or, or_true, eq_self, if_true, if_false, ite_self, ite_true, ite_false, ↓reduceIte, reduceCtorEq, Nat.reduceEqDiff, Nat.reduceAdd, Nat.reduceLT, Nat.reduceLeDiff, Nat.reduceMul, Nat.reduceSub, not_true_eq_false, not_false_eq_true, and_self, and_true, true_and, and_false, false_and, nI_add, h1.1, h8.1, kd0, rr0_2, kd8, rr8_2, kd11, rr0_4, kd54, h2, m76s h1 hO hk4 h3, kdG h1.1 (isGa8 hg), cR_no h1 hg, cR_Wd h1 hg, e2, m1, q1, q3, q4, c1, c3]
              exact hI
            · have c3 : (sTr S g k).2 ≤ sWr S g k := by omega
              rw [if_neg (fun q => c2 q.2), if_neg c1, q1] at hI
              simp only [s119_28, s119_29, s119_32, s119_33, s119_36, s119_38, s119_41, s119_41n, s119_43, s119_43n, s119_45n, s119_45, s119_48, s119_49, s119_52, s119_55, s119_56, s119_59, s119_60, s119_63, s119_63n, s119_65, s119_66, s119_67, s119_70, s119_73, s119_76, s119_78, s119_79, s119_80, s119_83, s119_85, s119_86, s119_89, s119_91, s119_92, s119_94, s119_95, s119_98, am_pu_s, am_pu_n, va_rf_s, va_rf_n, Option.bind_some, true_or, or_true, eq_self, if_true, if_false, ite_self, ite_true, ite_false, ↓reduceIte, reduceCtorEq, Nat.reduceEqDiff, Nat.reduceAdd, Nat.reduceLT, Nat.reduceLeDiff, Nat.reduceMul, Nat.reduceSub, not_true_eq_false, not_false_eq_true, and_self, and_true, true_and, and_false, false_and, nI_add, h1.1, h8.1, kd0, rr0_2, kd8, rr8_2, kd11, rr0_4, kd54, h2, m76s h1 hO hk4 h3, kdG h1.1 (isGa8 hg), cR_no h1 hg, cR_Wd h1 hg, e2, m1, q1, q3, q4, c1, c3]
              exact hI
        · have hI := ih (k + 1) σ1 (some .null) l6 (by omega) hp1
          rw [sTr, if_neg (fun q => h3 q.1)] at hI
          simp only [s119_28, s119_29, s119_32, s119_33, s119_36, s119_38, s119_41, s119_41n, s119_43, s119_43n, s119_45n, s119_45, s119_48, s119_49, s119_52, s119_55, s119_56, s119_59, s119_60, s119_63, s119_63n, s119_65, s119_66, s119_67, s119_70, s119_73, s119_76, s119_78, s119_79, s119_80, s119_83, s119_85, s119_86, s119_89, s119_91, s119_92, s119_94, s119_95, s119_98, am_pu_s, am_pu_n, va_rf_s, va_rf_n, Option.bind_some, true_or, or_true, eq_self, if_true, if_false, ite_self, ite_true, ite_false, ↓reduceIte, reduceCtorEq, Nat.reduceEqDiff, Nat.reduceAdd, Nat.reduceLT, Nat.reduceLeDiff, Nat.reduceMul, Nat.reduceSub, not_true_eq_false, not_false_eq_true, and_self, and_true, true_and, and_false, false_and, nI_add, h1.1, kd0, rr0_2, kd8, h2, m76n h1 (tI_0 hk4 (by omega))]
          exact hI
    obtain ⟨σ', e2, hp2⟩ := loop 4 0 σ none none (by omega) (am_pr.rf h.1)
    refine ⟨σ', ?_, hp2⟩
    rw [s119]
    simp only [s119_0, s119_1, s119_4, s119_7, s119_8, s119_11, s119_14, s119_17, s119_18, s119_19, s119_20, s119_21, s119_22, s119_23, s119_24, am_pu_s, am_pu_n, va_rf_s, va_rf_n, Option.bind_some, true_or, or_true, eq_self, if_true, if_false, ite_self, ite_true, ite_false, ↓reduceIte, reduceCtorEq, Nat.reduceEqDiff, Nat.reduceAdd, Nat.reduceLT, Nat.reduceLeDiff, Nat.reduceMul, Nat.reduceSub, not_true_eq_false, not_false_eq_true, and_self, and_true, true_and, and_false, false_and, hF, kd0, rr0_2, kd8, rr8_2, kd11, kdG hF (isGa8 hg), cR_no h hg, m44 h hO hg, e0, h0]
    exact e2
theorem m198 (h : mRep S σ) (hO : sOK N S) (hg : g < 4) : ∃ σ', am_v X (d + 7) 198 [.ref (66 : Nat), .int (nI g)] σ = some (some (.int (rTry S g)), σ') ∧ am_pr nsA σ σ' := by
  have b1 := lo_le (g := g) hO
  have b2 := ht_le S g
  have hF := h.1
  unfold rTry
  have m1 := m197 (X := X) (d := d + 4) h hO hg (show 0 < 3 by decide)
  rw [if_pos rfl] at m1
  have e0 : (nI (ht S g + 1 - lo S g) ≤ nI 0) = (ht S g + 1 - lo S g ≤ 0) := nI_LE (by omega) (by decide)
  by_cases h0 : ht S g + 1 - lo S g = 0
  · refine ⟨σ, ?_, am_pr.rf hF⟩
    have h0' : ht S g + 1 - lo S g ≤ 0 := by omega
    rw [h0] at m1
    rw [if_pos h0, s198]
    simp only [s198_0, s198_1, s198_2, s198_3, s198_6, s198_7, s198_8, s198_9, s198_12, s198_14, s198_15, s198_17, s198_19, s198_20, s198_23, s198_24, s198_160, s198_161, am_pu_s, am_pu_n, va_rf_s, va_rf_n, Option.bind_some, true_or, or_true, eq_self, if_true, if_false, ite_self, ite_true, ite_false, ↓reduceIte, reduceCtorEq, Nat.reduceEqDiff, Nat.reduceAdd, Nat.reduceLT, Nat.reduceLeDiff, Nat.reduceMul, Nat.reduceSub, not_true_eq_false, not_false_eq_true, and_self, and_true, true_and, and_false, false_and, hF, kd66, m1, nI_LE]
  · have h0' : ¬ ht S g + 1 - lo S g ≤ 0 := by omega
    rw [if_neg h0]
    have loop : ∀ m k σ1 l6 l7, k + m = 4 → am_pr nsA σ σ1 → ∃ σ', am_w X (d + 6) 198 17 [some (.ref (66 : Nat)), some (.int (nI g)), some (.int (nI (ht S g + 1 - lo S g))), some (.int (wM (sTr S g k).1)), some (.int (nI (sTr S g k).2)), some (.int (nI k)), l6, l7] [] σ1 = some (some (.int (wM (sTr S g 4).1)), σ') ∧ am_pr nsA σ σ' := by
      intro m
      induction m with
      | zero =>
        intro k σ1 l5 l6 hk hp1
        have hk : k = 4 := by omega
        subst hk
        refine ⟨σ1, ?_, hp1⟩
        rw [s198_17]
        simp only [s198_19, s198_20, s198_23, s198_24, s198_160, s198_161, am_pu_s, am_pu_n, va_rf_s, va_rf_n, Option.bind_some, true_or, or_true, eq_self, if_true, if_false, ite_self, ite_true, ite_false, ↓reduceIte, reduceCtorEq, Nat.reduceEqDiff, Nat.reduceAdd, Nat.reduceLT, Nat.reduceLeDiff, Nat.reduceMul, Nat.reduceSub, not_true_eq_false, not_false_eq_true, and_self, and_true, true_and, and_false, false_and, nI_LE]
      | succ m ih =>
        intro k σ1 l6 l7 hk hp1
        have h1 := h.prA hp1
        have hk4 : k < 4 := by omega
        have hN := sO_N hO hk4
        have h2 : ¬ nI 4 ≤ nI k := nI_ge (by omega) (by decide)
        have e1 : (nI (S 1 k 0) ≤ nI 0) = (S 1 k 0 ≤ 0) := nI_LE (by omega) (by decide)
        have e3 : (nI (S 1 k 0) = nI 0) = (S 1 k 0 = 0) := nI_EQ (by omega) (by decide)
        have t1 := sTr_2 S g k
        have w1 := sWr_le S g k
        have p1 := sPy_le (g := g) hO hk4
        have t2 : (sTr S g k).2 ≤ 268435456 := by
          by_cases c1 : (sTr S g k).1 = 0
          · exact Nat.le_of_eq (t1.1 c1)
          · have := t1.2.1 c1
            omega
        rw [s198_17]
        by_cases h3 : 0 < S 1 k 0
        · have h4 : ¬ S 1 k 0 ≤ 0 := by omega
          have h5 : ¬ S 1 k 0 = 0 := by omega
          have inner : ∀ m t σ2, t + m = 100 → am_pr nsA σ σ2 → ∃ σ', am_w X (d + 6) 198 33 [some (.ref (66 : Nat)), some (.int (nI g)), some (.int (nI (ht S g + 1 - lo S g))), some (.int (wM (sTr S g k).1)), some (.int (nI (sTr S g k).2)), some (.int (nI k)), some (.int (nI (min t (min (ht S g) (sPy S k g) + 1) - lo S g))), some (.int (nI t))] [] σ2 = am_w X (d + 6) 198 88 [some (.ref (66 : Nat)), some (.int (nI g)), some (.int (nI (ht S g + 1 - lo S g))), some (.int (wM (sTr S g k).1)), some (.int (nI (sTr S g k).2)), some (.int (nI k)), some (.int (nI (min (ht S g) (sPy S k g) + 1 - lo S g))), some (.int (nI 100))] [] σ' ∧ am_pr nsA σ σ' := by
            intro m
            induction m with
            | zero =>
              intro t σ2 hk hp2
              have hk : t = 100 := by omega
              subst hk
              refine ⟨σ2, ?_, hp2⟩
              rw [s198_33, show min 100 (min (ht S g) (sPy S k g) + 1) = min (ht S g) (sPy S k g) + 1 by omega]
              simp only [s198_35, s198_37, am_pu_s, am_pu_n, va_rf_s, va_rf_n, Option.bind_some, true_or, or_true, eq_self, if_true, if_false, ite_self, ite_true, ite_false, ↓reduceIte, reduceCtorEq, Nat.reduceEqDiff, Nat.reduceAdd, Nat.reduceLT, Nat.reduceLeDiff, Nat.reduceMul, Nat.reduceSub, not_true_eq_false, not_false_eq_true, and_self, and_true, true_and, and_false, false_and, nI_LT]
            | succ m ih =>
              intro t σ2 hk hp2
              have h8 := h.prA hp2
              have q1 : ¬ nI 99 < nI t := nI_nlt (by omega) (by decide)
              have m1 := m196 (X := X) (d := d + 5) h8 hO hg (show t ≤ 99 by omega)
              rw [s198_33]
              by_cases c : lo S g ≤ t ∧ t ≤ ht S g
              · rw [bI_t c] at m1
                obtain ⟨σ3, e4, hp3⟩ := m176 (X := X) (d := d) h8 hO hk4 hg
                rw [← sPy] at e4
                have q2 : (nI (sPy S k g) < nI t) = (sPy S k g < t) := nI_LT (by omega) (by omega)
                obtain ⟨σ4, e5, hp4⟩ := ih (t + 1) σ3 (by omega) (hp2.tr hp3)
                refine ⟨σ4, ?_, hp4⟩
                by_cases c2 : sPy S k g < t
                · rw [show min (t + 1) (min (ht S g) (sPy S k g) + 1) = min t (min (ht S g) (sPy S k g) + 1) by omega] at e5
                  simp only [s198_35, s198_37, s198_40, s198_41, s198_44, s198_46, s198_47, s198_50, s198_52, s198_53, s198_54, s198_56, s198_59, s198_62, s198_63, s198_65, s198_66, s198_69, s198_71, s198_74, s198_75, s198_78, s198_79, s198_80, s198_82, s198_85, am_pu_s, am_pu_n, va_rf_s, va_rf_n, Option.bind_some, true_or, or_true, eq_self, if_true, if_false, ite_self, ite_true, ite_false, ↓reduceIte, reduceCtorEq, Nat.reduceEqDiff, Nat.reduceAdd, Nat.reduceLT, Nat.reduceLeDiff, Nat.reduceMul, Nat.reduceSub, not_true_eq_false, not_false_eq_true, and_self, and_true, true_and, and_false, false_and, Nat.add_zero, nI_add, nI_10, h8.1, kd66, rr66_1, ix68 h8.1 hk4, nI_cl (show k < 2147483648 by omega), mR_N h8 hk4, e1, h4, q1, m1, e4, q2, c2]
                  exact e5
                · rw [show min (t + 1) (min (ht S g) (sPy S k g) + 1) - lo S g = min t (min (ht S g) (sPy S k g) + 1) - lo S g + 1 by omega] at e5
                  simp only [s198_35, s198_37, s198_40, s198_41, s198_44, s198_46, s198_47, s198_50, s198_52, s198_53, s198_54, s198_56, s198_59, s198_62, s198_63, s198_65, s198_66, s198_69, s198_71, s198_74, s198_75, s198_78, s198_79, s198_80, s198_82, s198_85, am_pu_s, am_pu_n, va_rf_s, va_rf_n, Option.bind_some, true_or, or_true, eq_self, if_true, if_false, ite_self, ite_true, ite_false, ↓reduceIte, reduceCtorEq, Nat.reduceEqDiff, Nat.reduceAdd, Nat.reduceLT, Nat.reduceLeDiff, Nat.reduceMul, Nat.reduceSub, not_true_eq_false, not_false_eq_true, and_self, and_true, true_and, and_false, false_and, Nat.add_zero, nI_add, nI_10, h8.1, kd66, rr66_1, ix68 h8.1 hk4, nI_cl (show k < 2147483648 by omega), mR_N h8 hk4, e1, h4, q1, m1, e4, q2, c2]
                  exact e5
              · rw [bI_f c] at m1
                obtain ⟨σ4, e5, hp4⟩ := ih (t + 1) σ2 (by omega) hp2
                refine ⟨σ4, ?_, hp4⟩
                rw [show min (t + 1) (min (ht S g) (sPy S k g) + 1) - lo S g = min t (min (ht S g) (sPy S k g) + 1) - lo S g by omega] at e5
                simp only [s198_35, s198_37, s198_40, s198_41, s198_44, s198_46, s198_47, s198_50, s198_52, s198_53, s198_54, s198_56, s198_59, s198_62, s198_63, s198_65, s198_66, s198_69, s198_71, s198_74, s198_75, s198_78, s198_79, s198_80, s198_82, s198_85, am_pu_s, am_pu_n, va_rf_s, va_rf_n, Option.bind_some, true_or, or_true, eq_self, if_true, if_false, ite_self, ite_true, ite_false, ↓reduceIte, reduceCtorEq, Nat.reduceEqDiff, Nat.reduceAdd, Nat.reduceLT, Nat.reduceLeDiff, Nat.reduceMul, Nat.reduceSub, not_true_eq_false, not_false_eq_true, and_self, and_true, true_and, and_false, false_and, Nat.add_zero, nI_add, nI_10, h8.1, kd66, rr66_1, ix68 h8.1 hk4, nI_cl (show k < 2147483648 by omega), mR_N h8 hk4, e1, h4, q1, m1]
                exact e5
          obtain ⟨σ2, e2, hp2⟩ := inner 100 0 σ1 (by omega) hp1
          have h8 := h.prA hp2
          rw [show min 0 (min (ht S g) (sPy S k g) + 1) - lo S g = 0 by omega] at e2
          have hI := ih (k + 1) σ2 (some (.int (nI (min (ht S g) (sPy S k g) + 1 - lo S g)))) (some (.int (nI (sWr S g k)))) (by omega) hp2
          rw [sTr] at hI
          have st : am_w X (d + 6) 198 88 [some (.ref (66 : Nat)), some (.int (nI g)), some (.int (nI (ht S g + 1 - lo S g))), some (.int (wM (sTr S g k).1)), some (.int (nI (sTr S g k).2)), some (.int (nI k)), some (.int (nI (min (ht S g) (sPy S k g) + 1 - lo S g))), some (.int (nI 100))] [] σ2 = am_w X (d + 6) 198 122 [some (.ref (66 : Nat)), some (.int (nI g)), some (.int (nI (ht S g + 1 - lo S g))), some (.int (wM (sTr S g k).1)), some (.int (nI (sTr S g k).2)), some (.int (nI k)), some (.int (nI (min (ht S g) (sPy S k g) + 1 - lo S g))), some (.int (nI 100))] [.int (nI (sWr S g k))] σ2 := by
            have q1 : (nI (min (ht S g) (sPy S k g) + 1 - lo S g) ≤ nI (ht S g + 1 - lo S g - (min (ht S g) (sPy S k g) + 1 - lo S g))) = (min (ht S g) (sPy S k g) + 1 - lo S g ≤ ht S g + 1 - lo S g - (min (ht S g) (sPy S k g) + 1 - lo S g)) := nI_LE (by omega) (by omega)
            have q2 : nI (ht S g + 1 - lo S g) - nI (min (ht S g) (sPy S k g) + 1 - lo S g) = nI (ht S g + 1 - lo S g - (min (ht S g) (sPy S k g) + 1 - lo S g)) := pk_sub (by omega)
            rw [s198_88]
            by_cases c : min (ht S g) (sPy S k g) + 1 - lo S g ≤ ht S g + 1 - lo S g - (min (ht S g) (sPy S k g) + 1 - lo S g)
            · rw [show sWr S g k = ht S g + 1 - lo S g - (min (ht S g) (sPy S k g) + 1 - lo S g) from Nat.max_eq_right c]
              simp only [s198_89, s198_92, s198_94, s198_95, s198_98, s198_101, s198_104, s198_106, s198_107, s198_109, s198_110, s198_113, s198_115, s198_118, s198_119, am_pu_s, am_pu_n, va_rf_s, va_rf_n, Option.bind_some, true_or, or_true, eq_self, if_true, if_false, ite_self, ite_true, ite_false, ↓reduceIte, reduceCtorEq, Nat.reduceEqDiff, Nat.reduceAdd, Nat.reduceLT, Nat.reduceLeDiff, Nat.reduceMul, Nat.reduceSub, not_true_eq_false, not_false_eq_true, and_self, and_true, true_and, and_false, false_and, h8.1, kd66, rr66_1, ix68 h8.1 hk4, nI_cl (show k < 2147483648 by omega), mR_N h8 hk4, e3, h5, q2, q1, c]
              simp only [s198_121, am_pu_s, am_pu_n, va_rf_s, va_rf_n, Option.bind_some, true_or, or_true, eq_self, if_true, if_false, ite_self, ite_true, ite_false, ↓reduceIte, reduceCtorEq, Nat.reduceEqDiff, Nat.reduceAdd, Nat.reduceLT, Nat.reduceLeDiff, Nat.reduceMul, Nat.reduceSub, not_true_eq_false, not_false_eq_true, and_self, and_true, true_and, and_false, false_and, q2]
            · rw [show sWr S g k = min (ht S g) (sPy S k g) + 1 - lo S g from Nat.max_eq_left (by omega)]
              simp only [s198_89, s198_92, s198_94, s198_95, s198_98, s198_101, s198_104, s198_106, s198_107, s198_109, s198_110, s198_113, s198_115, s198_118, s198_119, am_pu_s, am_pu_n, va_rf_s, va_rf_n, Option.bind_some, true_or, or_true, eq_self, if_true, if_false, ite_self, ite_true, ite_false, ↓reduceIte, reduceCtorEq, Nat.reduceEqDiff, Nat.reduceAdd, Nat.reduceLT, Nat.reduceLeDiff, Nat.reduceMul, Nat.reduceSub, not_true_eq_false, not_false_eq_true, and_self, and_true, true_and, and_false, false_and, h8.1, kd66, rr66_1, ix68 h8.1 hk4, nI_cl (show k < 2147483648 by omega), mR_N h8 hk4, e3, h5, q2, q1, c]
          have q4 : (nI (sTr S g k).2 ≤ nI (sWr S g k)) = ((sTr S g k).2 ≤ sWr S g k) := nI_LE (by omega) (by omega)
          simp only [s198_19, s198_20, s198_23, s198_24, s198_27, s198_28, s198_30, s198_31, am_pu_s, am_pu_n, va_rf_s, va_rf_n, Option.bind_some, true_or, or_true, eq_self, if_true, if_false, ite_self, ite_true, ite_false, ↓reduceIte, reduceCtorEq, Nat.reduceEqDiff, Nat.reduceAdd, Nat.reduceLT, Nat.reduceLeDiff, Nat.reduceMul, Nat.reduceSub, not_true_eq_false, not_false_eq_true, and_self, and_true, true_and, and_false, false_and, h2, e0, h0']
          rw [e2, st]
          by_cases c2 : sWr S g k < (sTr S g k).2
          · have c3 : ¬ (sTr S g k).2 ≤ sWr S g k := by omega
            rw [if_pos ⟨h3, c2⟩] at hI
            dsimp only at hI
            rw [show wM (k + 1) = nI k from if_neg (by omega)] at hI
            simp only [s198_122, s198_124, s198_126, s198_128, s198_131, s198_133, s198_136, s198_137, s198_138, s198_140, s198_142, s198_145, s198_147, s198_150, s198_152, s198_154, s198_157, am_pu_s, am_pu_n, va_rf_s, va_rf_n, Option.bind_some, true_or, or_true, eq_self, if_true, if_false, ite_self, ite_true, ite_false, ↓reduceIte, reduceCtorEq, Nat.reduceEqDiff, Nat.reduceAdd, Nat.reduceLT, Nat.reduceLeDiff, Nat.reduceMul, Nat.reduceSub, not_true_eq_false, not_false_eq_true, and_self, and_true, true_and, and_false, false_and, nI_add, q4, c3]
            obtain ⟨σ', a1, a2⟩ := hI
            exact ⟨σ', a1, a2⟩
          · have c3 : (sTr S g k).2 ≤ sWr S g k := by omega
            rw [if_neg (fun q => c2 q.2)] at hI
            simp only [s198_122, s198_124, s198_126, s198_128, s198_131, s198_133, s198_136, s198_137, s198_138, s198_140, s198_142, s198_145, s198_147, s198_150, s198_152, s198_154, s198_157, am_pu_s, am_pu_n, va_rf_s, va_rf_n, Option.bind_some, true_or, or_true, eq_self, if_true, if_false, ite_self, ite_true, ite_false, ↓reduceIte, reduceCtorEq, Nat.reduceEqDiff, Nat.reduceAdd, Nat.reduceLT, Nat.reduceLeDiff, Nat.reduceMul, Nat.reduceSub, not_true_eq_false, not_false_eq_true, and_self, and_true, true_and, and_false, false_and, nI_add, q4, c3]
            exact hI
        · have h4 : S 1 k 0 ≤ 0 := by omega
          have h5 : S 1 k 0 = 0 := by omega
          have q1 : ¬ nI 99 < nI 0 := nI_nlt (by omega) (by decide)
          have q4 : (nI (sTr S g k).2 ≤ nI 268435456) = ((sTr S g k).2 ≤ 268435456) := nI_LE (by omega) (by omega)
          have hI := ih (k + 1) σ1 (some (.int (nI 0))) (some (.int (nI 268435456))) (by omega) hp1
          rw [sTr, if_neg (fun q => h3 q.1)] at hI
          simp only [s198_19, s198_20, s198_23, s198_24, s198_27, s198_28, s198_30, s198_31, s198_33, s198_35, s198_37, s198_40, s198_41, s198_44, s198_46, s198_47, s198_88, s198_89, s198_92, s198_94, s198_95, s198_98, s198_101, s198_104, s198_106, s198_107, s198_109, s198_110, s198_113, s198_115, s198_118, s198_119, s198_121, s198_122, s198_124, s198_126, s198_128, s198_131, s198_133, s198_136, s198_137, s198_138, s198_140, s198_142, s198_145, s198_147, s198_150, s198_152, s198_154, s198_157, am_pu_s, am_pu_n, va_rf_s, va_rf_n, Option.bind_some, true_or, or_true, eq_self, if_true, if_false, ite_self, ite_true, ite_false, ↓reduceIte, reduceCtorEq, Nat.reduceEqDiff, Nat.reduceAdd, Nat.reduceLT, Nat.reduceLeDiff, Nat.reduceMul, Nat.reduceSub, not_true_eq_false, not_false_eq_true, and_self, and_true, true_and, and_false, false_and, nI_add, h1.1, kd66, rr66_1, ix68 h1.1 hk4, nI_cl (show k < 2147483648 by omega), mR_N h1 hk4, h2, e0, h0', s198_33, q1, e1, h4, e3, h5, q4, t2]
          exact hI
    obtain ⟨σ', e2, hp2⟩ := loop 4 0 σ none none (by omega) (am_pr.rf h.1)
    refine ⟨σ', ?_, hp2⟩
    rw [s198]
    simp only [s198_0, s198_1, s198_2, s198_3, s198_6, s198_7, s198_8, s198_9, s198_12, s198_14, s198_15, am_pu_s, am_pu_n, va_rf_s, va_rf_n, Option.bind_some, true_or, or_true, eq_self, if_true, if_false, ite_self, ite_true, ite_false, ↓reduceIte, reduceCtorEq, Nat.reduceEqDiff, Nat.reduceAdd, Nat.reduceLT, Nat.reduceLeDiff, Nat.reduceMul, Nat.reduceSub, not_true_eq_false, not_false_eq_true, and_self, and_true, true_and, and_false, false_and, hF, kd66, m1]
    exact e2
end TR
