/-! who goes by which GATE: the change, and one more; 0: cannot -/
def sCh (S : am_St) (b g : Nat) : Nat := if 0 < S 1 b 0 ∧ S 6 g 0 ≤ sPy S b g then sPy S b g - S 6 g 0 + 1 else 0
section PL
variable {X : am_X} {d N b g : Nat} {σ : am_M} {S : am_St}
theorem m28 (h : cRep S σ) (hO : sOK N S) (hb : b < 4) (hg : g < 4) (h0 : 0 < S 1 b 0) : ∃ σ', am_v X (d + 6) 28 [.ref (15 + 3 * b), .ref (27 + g), .ref (54 : Nat)] σ = some (some (.int (wM (sCh S b g))), σ') ∧ am_pr nsA σ σ' := by
  have hF := h.1
  have hwd := sO_Wd hO hg
  have p1 := sPy_le (g := g) hO hb
  have t1 := sO_T hO hg
  obtain ⟨σ2, e2, hp2⟩ := m10 (X := X) (d := d) hF (w := S 7 g 0) (isTu8 hb) (cR_T h hb) (sO_N hO hb) (fun j hj => sO_B hO hb hj) (isGa8 hg) hg (cR_no h hg) (cR_K h hg) (sO_K hO hg) (by omega) (sO_W hO hb hg)
  rw [← sPy] at e2
  have h2 := h.prA hp2
  have e3 : (nI (sPy S b g) < nI (S 6 g 0)) = (sPy S b g < S 6 g 0) := nI_LT (by omega) (by omega)
  refine ⟨σ2, ?_, hp2⟩
  rw [s28]
  unfold sCh
  by_cases c : S 6 g 0 ≤ sPy S b g
  · have c' : ¬ sPy S b g < S 6 g 0 := by omega
    have q : wM (sPy S b g - S 6 g 0 + 1) = nI (sPy S b g - S 6 g 0) := if_neg (by omega)
    rw [if_pos ⟨h0, c⟩, q]
    simp only [s28_0, s28_1n, s28_1, s28_4, s28_5n, s28_5, s28_8, s28_9, s28_10, s28_11, s28_12, s28_13, s28_14, s28_17, s28_20, s28_21, s28_22, s28_23, s28_26, s28_29, s28_30, s28_31, s28_34, s28_35, s28_38, s28_39, am_pu_s, am_pu_n, va_rf_s, va_rf_n, Option.bind_some, true_or, or_true, eq_self, if_true, if_false, ite_self, ite_true, ite_false, ↓reduceIte, reduceCtorEq, Nat.reduceEqDiff, Nat.reduceAdd, Nat.reduceLT, Nat.reduceLeDiff, Nat.reduceMul, Nat.reduceSub, not_true_eq_false, not_false_eq_true, and_self, and_true, true_and, and_false, false_and, hF, h2.1, kd54, kdG hF (isGa8 hg), kdG h2.1 (isGa8 hg), cR_Wd h hg, cR_Tl h2 hg, e2, e3, c', pk_sub c]
  · have c' : sPy S b g < S 6 g 0 := by omega
    rw [if_neg (fun q => c q.2), show wM 0 = -1 from if_pos rfl]
    simp only [s28_0, s28_1n, s28_1, s28_4, s28_5n, s28_5, s28_8, s28_9, s28_10, s28_11, s28_12, s28_13, s28_14, s28_17, s28_20, s28_21, s28_22, s28_23, s28_26, s28_29, s28_30, s28_31, s28_34, s28_35, s28_38, s28_39, am_pu_s, am_pu_n, va_rf_s, va_rf_n, Option.bind_some, true_or, or_true, eq_self, if_true, if_false, ite_self, ite_true, ite_false, ↓reduceIte, reduceCtorEq, Nat.reduceEqDiff, Nat.reduceAdd, Nat.reduceLT, Nat.reduceLeDiff, Nat.reduceMul, Nat.reduceSub, not_true_eq_false, not_false_eq_true, and_self, and_true, true_and, and_false, false_and, hF, h2.1, kd54, kdG hF (isGa8 hg), kdG h2.1 (isGa8 hg), cR_Wd h hg, cR_Tl h2 hg, e2, e3, c']
theorem n28_0 {l1 l2 l3 : Option Value} {st : List Value} : am_w X d 28 0 [some .null, l1, l2, l3] st σ = am_w X d 28 1 [some .null, l1, l2, l3] (.null :: st) σ := e_aload_nN (by decide +kernel : am_fe 28 0 = some (false, false, .aload_n 0, [])) rfl
theorem n28_4 {l0 l2 l3 : Option Value} {st : List Value} : am_w X d 28 4 [l0, some .null, l2, l3] st σ = am_w X d 28 5 [l0, some .null, l2, l3] (.null :: st) σ := e_aload_nN (by decide +kernel : am_fe 28 4 = some (false, false, .aload_n 1, [])) rfl
theorem n28a {a1 a2 : Nat} : am_v X (d + 1) 28 [.null, .ref a1, .ref a2] σ = some (some (.int (-1)), σ) := by
  have e : am_v X (d + 1) 28 [.null, .ref a1, .ref a2] σ = am_w X d 28 0 [some .null, some (.ref a1), some (.ref a2), none] [] σ := am_v_e rfl
  rw [e]
  simp only [n28_0, n28_4, s28_0, s28_1n, s28_1, s28_4, s28_5n, s28_5, s28_8, s28_9, s28_10, s28_11, s28_12, s28_13, s28_14, s28_17, s28_20, s28_21, s28_22, s28_23, s28_26, s28_29, s28_30, s28_31, s28_34, s28_35, s28_38, s28_39, am_pu_s, am_pu_n, va_rf_s, va_rf_n, Option.bind_some, true_or, or_true, eq_self, if_true, if_false, ite_self, ite_true, ite_false, ↓reduceIte, reduceCtorEq, Nat.reduceEqDiff, Nat.reduceAdd, Nat.reduceLT, Nat.reduceLeDiff, Nat.reduceMul, Nat.reduceSub, not_true_eq_false, not_false_eq_true, and_self, and_true, true_and, and_false, false_and]
theorem n28b {a2 : Nat} : am_v X (d + 1) 28 [.null, .null, .ref a2] σ = some (some (.int (-1)), σ) := by
  have e : am_v X (d + 1) 28 [.null, .null, .ref a2] σ = am_w X d 28 0 [some .null, some .null, some (.ref a2), none] [] σ := am_v_e rfl
  rw [e]
  simp only [n28_0, n28_4, s28_0, s28_1n, s28_1, s28_4, s28_5n, s28_5, s28_8, s28_9, s28_10, s28_11, s28_12, s28_13, s28_14, s28_17, s28_20, s28_21, s28_22, s28_23, s28_26, s28_29, s28_30, s28_31, s28_34, s28_35, s28_38, s28_39, am_pu_s, am_pu_n, va_rf_s, va_rf_n, Option.bind_some, true_or, or_true, eq_self, if_true, if_false, ite_self, ite_true, ite_false, ↓reduceIte, reduceCtorEq, Nat.reduceEqDiff, Nat.reduceAdd, Nat.reduceLT, Nat.reduceLeDiff, Nat.reduceMul, Nat.reduceSub, not_true_eq_false, not_false_eq_true, and_self, and_true, true_and, and_false, false_and]
theorem n28c {a0 a2 : Nat} : am_v X (d + 1) 28 [.ref a0, .null, .ref a2] σ = some (some (.int (-1)), σ) := by
  have e : am_v X (d + 1) 28 [.ref a0, .null, .ref a2] σ = am_w X d 28 0 [some (.ref a0), some .null, some (.ref a2), none] [] σ := am_v_e rfl
  rw [e]
  simp only [n28_0, n28_4, s28_0, s28_1n, s28_1, s28_4, s28_5n, s28_5, s28_8, s28_9, s28_10, s28_11, s28_12, s28_13, s28_14, s28_17, s28_20, s28_21, s28_22, s28_23, s28_26, s28_29, s28_30, s28_31, s28_34, s28_35, s28_38, s28_39, am_pu_s, am_pu_n, va_rf_s, va_rf_n, Option.bind_some, true_or, or_true, eq_self, if_true, if_false, ite_self, ite_true, ite_false, ↓reduceIte, reduceCtorEq, Nat.reduceEqDiff, Nat.reduceAdd, Nat.reduceLT, Nat.reduceLeDiff, Nat.reduceMul, Nat.reduceSub, not_true_eq_false, not_false_eq_true, and_self, and_true, true_and, and_false, false_and]
theorem n26a {L : am_L} {a1 a2 : Nat} {v0 v1 : Value} : am_w X d 26 36 L [.ref a2, .ref a1, .null, v0, v1] σ = (am_v X d 28 [.null, .ref a1, .ref a2] σ).bind fun w => am_w X d 26 39 L (am_pu w.1 [v0, v1]) w.2 := e_invs (as := [.null, .ref a1, .ref a2]) (rest := [v0, v1]) (by decide +kernel : am_fe 26 36 = some (false, false, .invokestatic 33, [4, 28, 3, 767])) rfl rfl rfl
theorem n26b {L : am_L} {a2 : Nat} {v0 v1 : Value} : am_w X d 26 36 L [.ref a2, .null, .null, v0, v1] σ = (am_v X d 28 [.null, .null, .ref a2] σ).bind fun w => am_w X d 26 39 L (am_pu w.1 [v0, v1]) w.2 := e_invs (as := [.null, .null, .ref a2]) (rest := [v0, v1]) (by decide +kernel : am_fe 26 36 = some (false, false, .invokestatic 33, [4, 28, 3, 767])) rfl rfl rfl
theorem n26c {L : am_L} {a0 a2 : Nat} {v0 v1 : Value} : am_w X d 26 36 L [.ref a2, .null, .ref a0, v0, v1] σ = (am_v X d 28 [.ref a0, .null, .ref a2] σ).bind fun w => am_w X d 26 39 L (am_pu w.1 [v0, v1]) w.2 := e_invs (as := [.ref a0, .null, .ref a2]) (rest := [v0, v1]) (by decide +kernel : am_fe 26 36 = some (false, false, .invokestatic 33, [4, 28, 3, 767])) rfl rfl rfl
theorem m189 (h : mRep S σ) (hO : sOK N S) : ∃ σ', am_v X (d + 7) 189 [.ref (66 : Nat)] σ = some (none, σ') ∧ am_pr nsB σ σ' ∧ ∀ b g, b < 4 → g < S 4 0 0 → am_I σ' 88 (4 * b + g) = wM (sCh S b g) := by
  have hG := sO_G hO
  have inner : ∀ b, b < 4 → ∀ m k σ1 l3, k + m = S 4 0 0 → am_pr nsB σ σ1 → (∀ b' g', b' < 4 → g' < S 4 0 0 → (b' < b ∨ (b' = b ∧ g' < k)) → am_I σ1 88 (4 * b' + g') = wM (sCh S b' g')) → ∃ σ' l3', am_w X (d + 6) 189 9 [some (.ref (66 : Nat)), some (.int (nI b)), some (.int (nI k)), l3] [] σ1 = am_w X (d + 6) 189 69 [some (.ref (66 : Nat)), some (.int (nI b)), some (.int (nI (S 4 0 0))), l3'] [] σ' ∧ am_pr nsB σ σ' ∧ (∀ b' g', b' < 4 → g' < S 4 0 0 → b' < b + 1 → am_I σ' 88 (4 * b' + g') = wM (sCh S b' g')) := by
    intro b hb m
    induction m with
    | zero =>
      intro k σ1 l3 hk hp1 hr
      have hk : k = S 4 0 0 := by omega
      subst hk
      have h1 := h.piB hp1.i
      refine ⟨σ1, l3, ?_, hp1, fun b' g' q1 q2 q3 => hr b' g' q1 q2 (by omega)⟩
      rw [s189_9]
      simp only [s189_10, s189_11, s189_14, am_pu_s, am_pu_n, va_rf_s, va_rf_n, Option.bind_some, true_or, or_true, eq_self, if_true, if_false, ite_self, ite_true, ite_false, ↓reduceIte, reduceCtorEq, Nat.reduceEqDiff, Nat.reduceAdd, Nat.reduceLT, Nat.reduceLeDiff, Nat.reduceMul, Nat.reduceSub, not_true_eq_false, not_false_eq_true, and_self, and_true, true_and, and_false, false_and, h1.1, kd66, mR_G h1, Int32.le_refl]
    | succ m ih =>
      intro k σ1 l3 hk hp1 hr
      have h1 := h.piB hp1.i
      have hk4 : k < 4 := by omega
      have hN := sO_N hO hb
      have e1 : ¬ nI (S 4 0 0) ≤ nI k := nI_ge (by omega) (by omega)
      have e3 : (nI (S 1 b 0) = nI 0) = (S 1 b 0 = 0) := nI_EQ (by omega) (by decide)
      have p1 := sPy_le (g := k) hO hb
      have t1 := sO_T hO hk4
      have wr : ∀ σ2 : am_M, (∀ o k, nsA o k = true → True) → (∀ a, am_I σ2 88 a = am_I σ1 88 a) → ∀ b' g', b' < 4 → g' < S 4 0 0 → (b' < b ∨ (b' = b ∧ g' < k + 1)) → am_I (am_wI σ2 88 (4 * b + k) (wM (sCh S b k))) 88 (4 * b' + g') = wM (sCh S b' g') := by
        intro σ2 _ hs b' g' q1 q2 q3
        rw [am_I_wI]
        by_cases e : b' = b ∧ g' = k
        · rw [if_pos ⟨rfl, by omega⟩, e.1, e.2]
        · rw [if_neg (by omega), hs]
          exact hr b' g' q1 q2 (by omega)
      by_cases hN0 : S 1 b 0 = 0
      · have c0 : wM (sCh S b k) = -1 := by unfold sCh; rw [if_neg (by omega)]; rfl
        have q5 : ¬ nI 0 ≤ (-1 : Int32) := by decide +kernel
        have w := wr σ1 (fun _ _ _ => trivial) (fun _ => rfl)
        obtain ⟨σ', l3', r1, r2⟩ := ih (k + 1) _ (some (.int (-1))) (by omega) (hp1.w (o := 88) (k := 4 * b + k) (v := wM (sCh S b k)) (by rfl)) w
        refine ⟨σ', l3', ?_, r2⟩
        rw [c0] at r1
        rw [s189_9]
        simp only [s189_10, s189_11, s189_14, s189_17, s189_18, s189_21, s189_22, s189_23, s189_26, s189_27, s189_30, s189_31, s189_32, s189_33, s189_36, s189_37, s189_40, s189_41, s189_42, s189_43, s189_44, s189_45, s189_48, s189_49, s189_50, s189_51, s189_52, s189_53, s189_54, s189_57, s189_58, s189_61, s189_62, s189_63, s189_66, am_pu_s, am_pu_n, va_rf_s, va_rf_n, Option.bind_some, true_or, or_true, eq_self, if_true, if_false, ite_self, ite_true, ite_false, ↓reduceIte, reduceCtorEq, Nat.reduceEqDiff, Nat.reduceAdd, Nat.reduceLT, Nat.reduceLeDiff, Nat.reduceMul, Nat.reduceSub, not_true_eq_false, not_false_eq_true, and_self, and_true, true_and, and_false, false_and, nI_add, nI_2W, h1.1, kd66, rr66_1, rr66_38, mR_G h1, e1, ix68 h1.1 hb, nI_cl (show b < 2147483648 by omega), mR_N h1 hb, e3, hN0, q5, ix88 h1.1 (show 4 * b + k < 16 by omega), nI_cl (show 4 * b + k < 2147483648 by omega)]
        exact r1
      · obtain ⟨σ2, e2, hp2⟩ := m176 (X := X) (d := d) h1 hO hb hk4
        rw [← sPy] at e2
        have h2 := h1.prA hp2
        have w := wr σ2 (fun _ _ _ => trivial) (fun a => hp2.2.1 88 a (nsA_88 a))
        by_cases c : S 6 k 0 ≤ sPy S b k
        · have c0 : wM (sCh S b k) = nI (sPy S b k - S 6 k 0) := by
            unfold sCh
            rw [if_pos ⟨by omega, c⟩]
            exact if_neg (by omega)
          have q5 : nI 0 ≤ nI (sPy S b k - S 6 k 0) := nI_le (by omega) (by omega)
          obtain ⟨σ', l3', r1, r2⟩ := ih (k + 1) _ (some (.int (nI (sPy S b k - S 6 k 0)))) (by omega) ((hp1.tr hp2.A_B).w (o := 88) (k := 4 * b + k) (v := wM (sCh S b k)) (by rfl)) w
          refine ⟨σ', l3', ?_, r2⟩
          rw [c0] at r1
          rw [s189_9]
          simp only [s189_10, s189_11, s189_14, s189_17, s189_18, s189_21, s189_22, s189_23, s189_26, s189_27, s189_30, s189_31, s189_32, s189_33, s189_36, s189_37, s189_40, s189_41, s189_42, s189_43, s189_44, s189_45, s189_48, s189_49, s189_50, s189_51, s189_52, s189_53, s189_54, s189_57, s189_58, s189_61, s189_62, s189_63, s189_66, am_pu_s, am_pu_n, va_rf_s, va_rf_n, Option.bind_some, true_or, or_true, eq_self, if_true, if_false, ite_self, ite_true, ite_false, ↓reduceIte, reduceCtorEq, Nat.reduceEqDiff, Nat.reduceAdd, Nat.reduceLT, Nat.reduceLeDiff, Nat.reduceMul, Nat.reduceSub, not_true_eq_false, not_false_eq_true, and_self, and_true, true_and, and_false, false_and, nI_add, nI_2W, h1.1, h2.1, kd66, rr66_1, rr66_7, rr66_38, mR_G h1, e1, ix68 h1.1 hb, ix71 h2.1 hk4, nI_cl (show b < 2147483648 by omega), nI_cl (show k < 2147483648 by omega), mR_N h1 hb, mR_T h2 hk4, e3, hN0, e2, pk_sub c, q5, ix88 h2.1 (show 4 * b + k < 16 by omega), nI_cl (show 4 * b + k < 2147483648 by omega)]
          exact r1
        · have c0 : wM (sCh S b k) = -1 := by unfold sCh; rw [if_neg (fun q => c q.2)]; rfl
          have q5 : ¬ nI 0 ≤ nI (sPy S b k) - nI (S 6 k 0) := Int32.not_le.mpr (pk_sneg (by omega) (by omega))
          obtain ⟨σ', l3', r1, r2⟩ := ih (k + 1) _ (some (.int (nI (sPy S b k) - nI (S 6 k 0)))) (by omega) ((hp1.tr hp2.A_B).w (o := 88) (k := 4 * b + k) (v := wM (sCh S b k)) (by rfl)) w
          refine ⟨σ', l3', ?_, r2⟩
          rw [c0] at r1
          rw [s189_9]
          simp only [s189_10, s189_11, s189_14, s189_17, s189_18, s189_21, s189_22, s189_23, s189_26, s189_27, s189_30, s189_31, s189_32, s189_33, s189_36, s189_37, s189_40, s189_41, s189_42, s189_43, s189_44, s189_45, s189_48, s189_49, s189_50, s189_51, s189_52, s189_53, s189_54, s189_57, s189_58, s189_61, s189_62, s189_63, s189_66, am_pu_s, am_pu_n, va_rf_s, va_rf_n, Option.bind_some, true_or, or_true, eq_self, if_true, if_false, ite_self, ite_true, ite_false, ↓reduceIte, reduceCtorEq, Nat.reduceEqDiff, Nat.reduceAdd, Nat.reduceLT, Nat.reduceLeDiff, Nat.reduceMul, Nat.reduceSub, not_true_eq_false, not_false_eq_true, and_self, and_true, true_and, and_false, false_and, nI_add, nI_2W, h1.1, h2.1, kd66, rr66_1, rr66_7, rr66_38, mR_G h1, e1, ix68 h1.1 hb, ix71 h2.1 hk4, nI_cl (show b < 2147483648 by omega), nI_cl (show k < 2147483648 by omega), mR_N h1 hb, mR_T h2 hk4, e3, hN0, e2, q5, ix88 h2.1 (show 4 * b + k < 16 by omega), nI_cl (show 4 * b + k < 2147483648 by omega)]
          exact r1
  have outer : ∀ m b σ1 l2 l3, b + m = 4 → am_pr nsB σ σ1 → (∀ b' g', b' < 4 → g' < S 4 0 0 → b' < b → am_I σ1 88 (4 * b' + g') = wM (sCh S b' g')) → ∃ σ', am_w X (d + 6) 189 2 [some (.ref (66 : Nat)), some (.int (nI b)), l2, l3] [] σ1 = some (none, σ') ∧ am_pr nsB σ σ' ∧ ∀ b g, b < 4 → g < S 4 0 0 → am_I σ' 88 (4 * b + g) = wM (sCh S b g) := by
    intro m
    induction m with
    | zero =>
      intro b σ1 l2 l3 hk hp1 hr
      have hk : b = 4 := by omega
      subst hk
      refine ⟨σ1, ?_, hp1, fun b' g' q1 q2 => hr b' g' q1 q2 q1⟩
      rw [s189_2]
      simp only [s189_3, s189_4, s189_75, am_pu_s, am_pu_n, va_rf_s, va_rf_n, Option.bind_some, true_or, or_true, eq_self, if_true, if_false, ite_self, ite_true, ite_false, ↓reduceIte, reduceCtorEq, Nat.reduceEqDiff, Nat.reduceAdd, Nat.reduceLT, Nat.reduceLeDiff, Nat.reduceMul, Nat.reduceSub, not_true_eq_false, not_false_eq_true, and_self, and_true, true_and, and_false, false_and, nI_LE]
    | succ m ih =>
      intro b σ1 l2 l3 hk hp1 hr
      have e1 : ¬ nI 4 ≤ nI b := nI_ge (by omega) (by decide)
      obtain ⟨σ2, l3', r1, hp2, r2⟩ := inner b (by omega) (S 4 0 0) 0 σ1 l3 (by omega) hp1 (fun b' g' q1 q2 q3 => hr b' g' q1 q2 (by omega))
      obtain ⟨σ3, r3, r4⟩ := ih (b + 1) σ2 (some (.int (nI (S 4 0 0)))) l3' (by omega) hp2 r2
      refine ⟨σ3, ?_, r4⟩
      rw [s189_2]
      simp only [s189_3, s189_4, s189_7, s189_8, am_pu_s, am_pu_n, va_rf_s, va_rf_n, Option.bind_some, true_or, or_true, eq_self, if_true, if_false, ite_self, ite_true, ite_false, ↓reduceIte, reduceCtorEq, Nat.reduceEqDiff, Nat.reduceAdd, Nat.reduceLT, Nat.reduceLeDiff, Nat.reduceMul, Nat.reduceSub, not_true_eq_false, not_false_eq_true, and_self, and_true, true_and, and_false, false_and, e1]
      rw [r1]
      simp only [s189_69, s189_72, am_pu_s, am_pu_n, va_rf_s, va_rf_n, Option.bind_some, true_or, or_true, eq_self, if_true, if_false, ite_self, ite_true, ite_false, ↓reduceIte, reduceCtorEq, Nat.reduceEqDiff, Nat.reduceAdd, Nat.reduceLT, Nat.reduceLeDiff, Nat.reduceMul, Nat.reduceSub, not_true_eq_false, not_false_eq_true, and_self, and_true, true_and, and_false, false_and, nI_add]
      exact r3
  obtain ⟨σ', r1, r2⟩ := outer 4 0 σ none none (by omega) (am_pr.rf h.1) (fun b' g' _ _ q => absurd q (by omega))
  refine ⟨σ', ?_, r2⟩
  rw [s189]
  simp only [s189_0, s189_1, am_pu_s, am_pu_n, va_rf_s, va_rf_n, Option.bind_some, true_or, or_true, eq_self, if_true, if_false, ite_self, ite_true, ite_false, ↓reduceIte, reduceCtorEq, Nat.reduceEqDiff, Nat.reduceAdd, Nat.reduceLT, Nat.reduceLeDiff, Nat.reduceMul, Nat.reduceSub, not_true_eq_false, not_false_eq_true, and_self, and_true, true_and, and_false, false_and]
  exact r1
end PL
