/-! road of the model -/
section MU
variable {X : am_X} {d N : Nat} {σ σ' : am_M} {S S' : am_St} {v w : Int32}
theorem mRep_4 (h : mRep S σ) {x : Nat} : mRep (sU S 4 0 x) (am_wI σ 66 5 (nI x)) := by
  have hk := mRep_K (S' := sU S 4 0 x) (σ' := am_wI σ 66 5 (nI x)) h (fun i q => sU_o S (by omega)) (sU_o S (by omega)) (fun a k q => by rw [am_I_wI, if_neg (by omega)]) (by rw [am_I_wI, if_neg (by omega)]) (by rw [am_I_wI, if_neg (by omega)]) (by rw [am_I_wI, if_neg (by omega)])
  obtain ⟨hF, h2, h3, h4, h5, h6, h7, h8, _, _⟩ := h
  have h2' := h2.pr (σ' := am_wI σ 66 5 (nI x)) fun a k ha => by
    simp at ha
    rw [am_I_wI, if_neg (by omega)]
  refine ⟨hF, h2', fun g hg => ?_, ?_, ?_, ⟨?_, fun j hj => ?_⟩, ?_, ?_, hk.1, hk.2⟩
  · rw [am_I_wI, if_neg (by omega)]; exact h3 g hg
  · rw [am_I_wI, if_pos ⟨rfl, rfl⟩]; rfl
  · rw [am_I_wI, if_neg (by omega)]; exact h5
  · rw [am_I_wI, if_neg (by omega)]; exact h6.1
  · rw [am_I_wI, if_neg (by omega)]; exact h6.2 j hj
  · rw [am_I_wI, if_neg (by omega)]; exact h7
  · rw [am_I_wI, if_neg (by omega)]; exact h8
theorem mRep_5 (h : mRep S σ) {g x : Nat} : mRep (sU S 5 g x) (am_wI σ 70 g (nI x)) := by
  have hk := mRep_K (S' := sU S 5 g x) (σ' := am_wI σ 70 g (nI x)) h (fun i q => sU_o S (by omega)) (sU_o S (by omega)) (fun a k q => by rw [am_I_wI, if_neg (by omega)]) (by rw [am_I_wI, if_neg (by omega)]) (by rw [am_I_wI, if_neg (by omega)]) (by rw [am_I_wI, if_neg (by omega)])
  obtain ⟨hF, h2, h3, h4, h5, h6, h7, h8, _, _⟩ := h
  have h2' := h2.pr (σ' := am_wI σ 70 g (nI x)) fun a k ha => by
    simp at ha
    rw [am_I_wI, if_neg (by omega)]
  refine ⟨hF, h2', fun g' hg => ?_, ?_, ?_, ⟨?_, fun j hj => ?_⟩, ?_, ?_, hk.1, hk.2⟩
  · rw [am_I_wI, sU_at]
    by_cases c : g' = g
    · rw [if_pos ⟨rfl, c⟩, if_pos c]
    · rw [if_neg (fun q => c q.2), if_neg c]; exact h3 g' hg
  · rw [am_I_wI, if_neg (by omega)]; exact h4
  · rw [am_I_wI, if_neg (by omega)]; exact h5
  · rw [am_I_wI, if_neg (by omega)]; exact h6.1
  · rw [am_I_wI, if_neg (by omega)]; exact h6.2 j hj
  · rw [am_I_wI, if_neg (by omega)]; exact h7
  · rw [am_I_wI, if_neg (by omega)]; exact h8
theorem mRep_16 (h : mRep S σ) : mRep (sU (sU S 16 0 (S 16 0 0 + 1)) 18 0 0) (am_wI σ 66 4 (nI (S 16 0 0 + 1))) := by
  obtain ⟨hF, h2, h3, h4, h5, h6, h7, h8, h9, h10⟩ := h
  have e : ∀ j, ¬ j = 16 → ¬ j = 18 → sU (sU S 16 0 (S 16 0 0 + 1)) 18 0 0 j = S j := fun j q1 q2 => by rw [sU_o _ q2, sU_o _ q1]
  have h2' := mWld_S (fun i _ q => e i (by omega) (by omega)) (h2.pr (σ' := am_wI σ 66 4 (nI (S 16 0 0 + 1))) fun a k ha => by
    simp at ha
    rw [am_I_wI, if_neg (by omega)])
  refine ⟨hF, h2', fun g' hg => ?_, ?_, ?_, ⟨?_, fun j hj => ?_⟩, ?_, ?_, fun q => absurd (show 0 = 1 from q) (by decide), fun _ => ?_⟩
  · rw [am_I_wI, if_neg (by omega)]; exact h3 g' hg
  · rw [am_I_wI, if_neg (by omega)]; exact h4
  · rw [am_I_wI, if_neg (by omega)]; exact h5
  · rw [am_I_wI, if_neg (by omega)]; exact h6.1
  · rw [am_I_wI, if_neg (by omega)]; exact h6.2 j hj
  · rw [am_I_wI, if_pos ⟨rfl, rfl⟩]; rfl
  · rw [am_I_wI, if_neg (by omega)]; exact h8
  · rw [am_I_wI, if_neg (by omega), am_I_wI, if_neg (by omega)]
    show am_I σ 66 42 = nI 0 ∨ (am_I σ 66 42 = nI 1 ∧ ∃ r, r < S 16 0 0 + 1 ∧ am_I σ 66 43 = nI r)
    by_cases c : S 18 0 0 = 1
    · obtain ⟨a1, a2, a3, a4⟩ := h9 c
      exact Or.inr ⟨a2, _, Nat.lt_succ_self _, a3⟩
    · rcases h10 c with q | ⟨q, r, hr, q2⟩
      · exact Or.inl q
      · exact Or.inr ⟨q, r, by omega, q2⟩
theorem c148 (h : mRep S σ) (hO : sOK N S) : ∃ σ', am_v X (d + 4) 148 [.ref (66 : Nat)] σ = some (some (.int (oRoa S).1), σ') ∧ mRep (oRoa S).2 σ' ∧ am_pi nsC σ σ' := by
  have hF := h.1
  have hL := sO_L hO
  obtain ⟨σ0, e0, p0, w18, w19⟩ := m134 (X := X) (d := d) h hO
  have h0 := h.prA p0
  have hF0 := h0.1
  unfold oRoa
  rw [s148]
  by_cases c : sWh S
  · rw [if_pos c]
    rw [bI_t c] at w18
    have w19' := w19 c
    obtain ⟨m, hm⟩ : ∃ m, m = (S 14 0 0 + 1) / 4 := ⟨_, rfl⟩
    have hG := fun g (hg : g < (S 14 0 0 + 1) / 4) => wh_g c hg
    rw [← hm] at hG w19' ⊢
    have m4 : m ≤ 4 := by
      by_cases q : m = 0
      · omega
      · have := (hG 0 (by omega)).1
        omega
    have h1 := mRep_4 (x := m) h0
    have p1 : am_pi nsC σ (am_wI σ0 66 5 (nI m)) := p0.A_C.i.w (by rfl)
    obtain ⟨σ1, e1, h2, a14, a15, a4, p2⟩ := am_lps (fun k (_ : am_St) σ1 => am_w X (d + 3) 148 25 [some (.ref (66 : Nat)), some (.int (nI k))] [] σ1) (fun g S1 => sGa S1 g (sKd (S 15 (4 * g) 0)) (sTl S g)) m (fun _ S1 σ1 => mRep S1 σ1 ∧ S1 14 = S 14 ∧ S1 15 = S 15 ∧ S1 4 0 0 = m ∧ am_pi nsC σ σ1) (fun k S1 σ1 hk hp => by
      obtain ⟨g1, g2, g3, g4, g5⟩ := hp
      have hk4 : k < 4 := by omega
      obtain ⟨_, b1, b2, b3, b4⟩ := hG k hk
      have c1 := (sO_P hO (show 4 * k < S 14 0 0 by omega)).2
      have kd := (wKd_n _ (show S 15 (4 * k) 0 < 200 by omega) b2).1
      have q0 := mR_P g1 (j := 4 * k) (by rw [g2]; omega)
      have q1 := mR_P g1 (j := 4 * k + 1) (by rw [g2]; omega)
      have q2 := mR_P g1 (j := 4 * k + 2) (by rw [g2]; omega)
      rw [g3] at q0 q1 q2
      have c0 : ¬ nI m ≤ nI k := nI_ge hk (by omega)
      have rG := mR_G g1
      rw [g4] at rG
      have i5 := mRep_5 (g := k) (x := sKd (S 15 (4 * k) 0)) g1
      have i6 := mRep_gt (i := 6) (g := k) (x := sTl S k) i5 (by decide) (by decide) hk4
      have i7 := mRep_gt (i := 7) (g := k) (x := 0) i6 (by decide) (by decide) hk4
      have i8 := mRep_gt (i := 8) (g := k) (x := 0) i7 (by decide) (by decide) hk4
      have i9 := mRep_gt (i := 9) (g := k) (x := 0) i8 (by decide) (by decide) hk4
      have pp : am_pi nsC σ (am_wI (am_wI (am_wI (am_wI (am_wI σ1 70 k (nI (sKd (S 15 (4 * k) 0)))) 71 k (nI (sTl S k))) 72 k (nI 0)) 73 k (nI 0)) 74 k (nI 0)) := ((((g5.w (by rfl)).w (by rfl)).w (by rfl)).w (by rfl)).w (by rfl)
      refine ⟨_, ?_, i9, by rw [sGa_o _ (by omega)]; exact g2, by rw [sGa_o _ (by omega)]; exact g3, by rw [sGa_o _ (by omega)]; exact g4, pp⟩
      have t1 : nI (10 * (S 15 (4 * k + 1) 0 - 48) + S 15 (4 * k + 2) 0) - nI 48 = nI (sTl S k) := pk_sub (by omega)
      have hF1 := g1.1
      try dsimp only
      rw [s148_25]
      simp only [s148_26, s148_27, s148_30, s148_33, s148_34, s148_37, s148_38, s148_39, s148_42, s148_43, s148_44, s148_45, s148_46, s148_49, s148_50, s148_51, s148_54, s148_55, s148_57, s148_58, s148_61, s148_62, s148_63, s148_64, s148_65, s148_66, s148_67, s148_69, s148_70, s148_71, s148_72, s148_75, s148_76, s148_77, s148_78, s148_79, s148_80, s148_81, s148_82, s148_84, s148_85, s148_86, s148_87, s148_90, s148_91, s148_92, s148_93, s148_94, s148_97, s148_98, s148_99, s148_100, s148_101, s148_104, s148_105, s148_106, s148_107, s148_110, am_pu_s, am_pu_n, va_rf_s, va_rf_n, Option.bind_some, true_or, or_true, eq_self, if_true, if_false, ite_self, ite_true, ite_false, ↓reduceIte, reduceCtorEq, Nat.reduceEqDiff, Nat.reduceAdd, Nat.reduceLT, Nat.reduceLeDiff, Nat.reduceMul, Nat.reduceSub, not_true_eq_false, not_false_eq_true, and_self, and_true, true_and, and_false, false_and, am_I_wI, am_I_wJ, am_J_wI, am_J_wJ, am_R_wI, am_R_wJ, am_kd_wI, am_kd_wJ, am_ln_wI, am_ln_wJ, am_ix_wI, am_ix_wJ, am_F_wI, am_F_wJ, am_I_wC, am_J_wC, am_R_wC, am_kd_wC, am_ln_wC, am_ix_wC, am_F_wC, hF1, kd66, rr66_6, rr66_7, rr66_8, rr66_9, rr66_10, rr66_17, rG, c0, pk_mul, nI_add, ix79 hF1 (show 4 * k < 40 by omega), ix79 hF1 (show 4 * k + 1 < 40 by omega), ix79 hF1 (show 4 * k + 2 < 40 by omega), nI_cl (show 4 * k < 2147483648 by omega), nI_cl (show 4 * k + 1 < 2147483648 by omega), nI_cl (show 4 * k + 2 < 2147483648 by omega), q0, q1, q2, m132, kd, pk_sub b3.1, t1, ix70 hF1 hk4, ix71 hF1 hk4, ix72 hF1 hk4, ix73 hF1 hk4, ix74 hF1 hk4, nI_cl (show k < 2147483648 by omega)]) m 0 _ _ (by omega) ⟨h1, sU_o S (by decide), sU_o S (by decide), by rw [sU_at, if_pos rfl], p1⟩
    have h2' : mRep (sGs S m) σ1 := h2
    obtain ⟨σ2, e2, h3, p3⟩ := am_lps (fun k (_ : am_St) σ1 => am_w X (d + 3) 148 115 [some (.ref (66 : Nat)), some (.int (nI k))] [] σ1) (fun k S1 => sV S1 (k / 4) (k % 4) 0) 16 (fun _ S1 σ1 => mRep S1 σ1 ∧ am_pi nsC σ σ1) (fun k S1 σ1 hk hp => by
      obtain ⟨g1, g2⟩ := hp
      have c0 : ¬ nI 16 ≤ nI k := nI_ge hk (by decide)
      have i1 := mRep_we (b := k / 4) (g := k % 4) (x := 0) g1 (by omega) (by omega)
      rw [Nat.div_add_mod] at i1
      refine ⟨_, ?_, i1, g2.w (by rfl)⟩
      try dsimp only
      rw [s148_115]
      simp only [s148_116, s148_118, s148_121, s148_122, s148_125, s148_126, s148_127, s148_128, s148_131, am_pu_s, am_pu_n, va_rf_s, va_rf_n, Option.bind_some, true_or, or_true, eq_self, if_true, if_false, ite_self, ite_true, ite_false, ↓reduceIte, reduceCtorEq, Nat.reduceEqDiff, Nat.reduceAdd, Nat.reduceLT, Nat.reduceLeDiff, Nat.reduceMul, Nat.reduceSub, not_true_eq_false, not_false_eq_true, and_self, and_true, true_and, and_false, false_and, g1.1, kd66, rr66_11, c0, ix75 g1.1 hk, nI_cl (show k < 2147483648 by omega), nI_add]) 16 0 (sGs S m) σ1 (by omega) ⟨h2', p2⟩
    have h3' : mRep (sM4 (sGs S m)) σ2 := h3
    have hF1 := h2.1
    have hF2 := h3'.1
    have h4 := mRep_16 h3'
    have r16 : sM4 (sGs S m) 16 0 0 = S 16 0 0 := by rw [sM4_o _ (by decide), sGs_o _ (by decide)]
    rw [r16] at h4
    have h5 := mRep_sc (x := 0) h4
    have h6 := mRep_p0 h5
    rw [sU_c _ (show ¬ 18 = 10 by decide), sU_c _ (show ¬ 16 = 10 by decide), sU_c _ (show ¬ 18 = 14 by decide), sU_c _ (show ¬ 16 = 14 by decide), sU_c _ (show ¬ 16 = 18 by decide)] at h6
    have r4 : am_I σ2 66 4 = nI (S 16 0 0) := by
      have q := h3'.2.2.2.2.2.2.1
      rw [r16] at q
      exact q
    have rG := mR_G h2'
    rw [sGs_4] at rG
    have rG2 := mR_G h3'
    rw [sM4_o _ (by decide), sGs_4] at rG2
    have pp : am_pi nsC σ (am_wI (am_wI (am_wI σ2 66 4 (nI (S 16 0 0 + 1))) 66 12 (nI 0)) 66 16 (nI 0)) := ((p3.w (by rfl)).w (by rfl)).w (by rfl)
    refine ⟨_, ?_, h6, pp⟩
    have c1 : nI 16 ≤ nI 16 := Int32.le_refl _
    simp only [s148_0, s148_1, s148_4, s148_5, s148_6, s148_9, s148_12, s148_14, s148_15, s148_16, s148_17, s148_20, s148_23, s148_24, am_pu_s, am_pu_n, va_rf_s, va_rf_n, Option.bind_some, true_or, or_true, eq_self, if_true, if_false, ite_self, ite_true, ite_false, ↓reduceIte, reduceCtorEq, Nat.reduceEqDiff, Nat.reduceAdd, Nat.reduceLT, Nat.reduceLeDiff, Nat.reduceMul, Nat.reduceSub, not_true_eq_false, not_false_eq_true, and_self, and_true, true_and, and_false, false_and, hF, hF0, kd66, e0, w18, w19', nI_10]
    refine Eq.trans e1 ?_
    try dsimp only
    rw [s148_25]
    simp only [s148_26, s148_27, s148_30, s148_113, s148_114, am_pu_s, am_pu_n, va_rf_s, va_rf_n, Option.bind_some, true_or, or_true, eq_self, if_true, if_false, ite_self, ite_true, ite_false, ↓reduceIte, reduceCtorEq, Nat.reduceEqDiff, Nat.reduceAdd, Nat.reduceLT, Nat.reduceLeDiff, Nat.reduceMul, Nat.reduceSub, not_true_eq_false, not_false_eq_true, and_self, and_true, true_and, and_false, false_and, hF1, kd66, rG, Int32.le_refl]
    refine Eq.trans e2 ?_
    try dsimp only
    rw [s148_115]
    simp only [s148_116, s148_118, s148_134, s148_135, s148_136, s148_139, s148_140, s148_141, s148_144, s148_145, s148_146, s148_149, s148_150, s148_151, s148_154, s148_155, s148_158, am_pu_s, am_pu_n, va_rf_s, va_rf_n, Option.bind_some, true_or, or_true, eq_self, if_true, if_false, ite_self, ite_true, ite_false, ↓reduceIte, reduceCtorEq, Nat.reduceEqDiff, Nat.reduceAdd, Nat.reduceLT, Nat.reduceLeDiff, Nat.reduceMul, Nat.reduceSub, not_true_eq_false, not_false_eq_true, and_self, and_true, true_and, and_false, false_and, am_I_wI, am_I_wJ, am_J_wI, am_J_wJ, am_R_wI, am_R_wJ, am_kd_wI, am_kd_wJ, am_ln_wI, am_ln_wJ, am_ix_wI, am_ix_wJ, am_F_wI, am_F_wJ, am_I_wC, am_J_wC, am_R_wC, am_kd_wC, am_ln_wC, am_ix_wC, am_F_wC, c1, hF2, kd66, r4, rG2, nI_add]
  · rw [if_neg c]
    rw [bI_f c] at w18
    refine ⟨σ0, ?_, h0, p0.A_C.i⟩
    simp only [s148_0, s148_1, s148_4, s148_5, s148_6, s148_9, s148_12, s148_14, am_pu_s, am_pu_n, va_rf_s, va_rf_n, Option.bind_some, true_or, or_true, eq_self, if_true, if_false, ite_self, ite_true, ite_false, ↓reduceIte, reduceCtorEq, Nat.reduceEqDiff, Nat.reduceAdd, Nat.reduceLT, Nat.reduceLeDiff, Nat.reduceMul, Nat.reduceSub, not_true_eq_false, not_false_eq_true, and_self, and_true, true_and, and_false, false_and, hF, hF0, kd66, e0, w18]
end MU
