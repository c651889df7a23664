/-! write of the model -/
section MU
variable {X : am_X} {d N : Nat} {σ σ' : am_M} {S S' : am_St} {v w : Int32}
theorem mCo_pr {T : am_T} (h : mCo T σ) (hF : am_F σ') (hm : ∀ a k, (80 ≤ a ∧ a ≤ 84) ∨ (a = 66 ∧ (k = 24 ∨ k = 25 ∨ k = 28 ∨ k = 31 ∨ k = 32)) → am_I σ' a k = am_I σ a k) : mCo T σ' := by
  obtain ⟨_, ⟨c0, c6, c4, c7, c8⟩, cb, cs⟩ := h
  refine ⟨hF, ⟨?_, ?_, ?_, ?_, ?_⟩, fun j hj => ?_, fun j hj => ?_⟩
  · rw [hm _ _ (by omega)]; exact c0
  · rw [hm _ _ (by omega)]; exact c6
  · rw [hm _ _ (by omega)]; exact c4
  · rw [hm _ _ (by omega)]; exact c7
  · rw [hm _ _ (by omega)]; exact c8
  · rw [hm _ _ (by omega)]; exact cb j hj
  · rw [hm _ _ (by omega), hm _ _ (by omega), hm _ _ (by omega), hm _ _ (by omega)]; exact cs j hj
theorem c150 (h : mRep S σ) (hO : sOK N S) : ∃ σ', am_v X (d + 8) 150 [.ref (66 : Nat), .int v] σ = some (some (.int (oWri S v).1), σ') ∧ mRep (oWri S v).2 σ' ∧ am_pi nsC σ σ' := by
  have hF := h.1
  unfold oWri
  rw [s150]
  rcases pk_n v 4 (by decide) with c | ⟨b, hb, rfl⟩
  · rw [if_pos c]
    refine ⟨σ, ?_, h, am_pi.rf hF⟩
    simp only [s150_0, s150_1, s150_2, s150_3, s150_6, s150_9, s150_11, s150_12, s150_13, s150_16, s150_17, s150_18, s150_21, s150_24, s150_25, s150_28, s150_31, s150_32, s150_35, s150_38, s150_40, s150_43, s150_45, s150_46, s150_47, s150_48, s150_49, s150_50, s150_53, s150_56, s150_57, s150_60, s150_62, s150_63, s150_64, s150_65, s150_66, s150_67, s150_70, s150_71, s150_72, s150_73, s150_76, s150_79, s150_80, s150_83, s150_84, s150_85, s150_88, s150_89, s150_90, s150_93, s150_94, s150_95, s150_98, s150_99, s150_100, s150_101, s150_104, s150_105, s150_106, s150_109, s150_110, s150_111, s150_114, s150_115, s150_116, s150_119, s150_120, s150_123, am_pu_s, am_pu_n, va_rf_s, va_rf_n, Option.bind_some, true_or, or_true, eq_self, if_true, if_false, ite_self, ite_true, ite_false, ↓reduceIte, reduceCtorEq, Nat.reduceEqDiff, Nat.reduceAdd, Nat.reduceLT, Nat.reduceLeDiff, Nat.reduceMul, Nat.reduceSub, not_true_eq_false, not_false_eq_true, and_self, and_true, true_and, and_false, false_and, m124, bI_f (wth4.mp c)]
  rw [if_neg (pk_nN hb (by decide)), nI_cl (by omega)]
  have hb' : nI 0 ≤ nI b ∧ nI b ≤ nI 3 := ⟨nI_le (by omega) (by omega), nI_le (by omega) (by decide)⟩
  obtain ⟨_, _, _, _, hB, _⟩ := rdR_ok S
  obtain ⟨σ1, e1, hr, p1, h18⟩ := m146 (X := X) (d := d) h hO
  have h1 := h.prA p1
  have hF1 := h1.1
  have r32 := hr.1.2.1.2.2.2.2
  have b8 := hB.2.1
  have b60 := hB.1
  by_cases cw : wTn S
  · rw [if_neg (fun q => q cw)]
    rw [bI_t cw] at h18
    by_cases c8 : (rdR S).2 8 0 = 1
    · rw [if_pos c8]
      rw [c8] at r32
      refine ⟨σ1, ?_, h1, p1.A_C.i⟩
      simp only [s150_0, s150_1, s150_2, s150_3, s150_6, s150_9, s150_11, s150_12, s150_13, s150_16, s150_17, s150_18, s150_21, s150_24, s150_25, s150_28, s150_31, s150_32, s150_35, s150_38, s150_40, s150_43, s150_45, s150_46, s150_47, s150_48, s150_49, s150_50, s150_53, s150_56, s150_57, s150_60, s150_62, s150_63, s150_64, s150_65, s150_66, s150_67, s150_70, s150_71, s150_72, s150_73, s150_76, s150_79, s150_80, s150_83, s150_84, s150_85, s150_88, s150_89, s150_90, s150_93, s150_94, s150_95, s150_98, s150_99, s150_100, s150_101, s150_104, s150_105, s150_106, s150_109, s150_110, s150_111, s150_114, s150_115, s150_116, s150_119, s150_120, s150_123, am_pu_s, am_pu_n, va_rf_s, va_rf_n, Option.bind_some, true_or, or_true, eq_self, if_true, if_false, ite_self, ite_true, ite_false, ↓reduceIte, reduceCtorEq, Nat.reduceEqDiff, Nat.reduceAdd, Nat.reduceLT, Nat.reduceLeDiff, Nat.reduceMul, Nat.reduceSub, not_true_eq_false, not_false_eq_true, and_self, and_true, true_and, and_false, false_and, m124, bI_t hb', nI_10, hF, hF1, kd66, e1, h18, r32]
    · rw [if_neg c8]
      rw [show (rdR S).2 8 0 = 0 by omega] at r32
      obtain ⟨σ2, e2, h2, c2, p2⟩ := am_lps (fun k (_ : am_St) σ1 => am_w X (d + 7) 150 48 [some (.ref (66 : Nat)), some (.int (nI b)), some (.int (nI k))] [] σ1) (fun k S1 => sB1 S1 b k ((rdR S).2 9 k)) ((rdR S).2 7 0) (fun _ S1 σ1 => mRep S1 σ1 ∧ mCo (rdR S).2 σ1 ∧ am_pi nsC σ σ1) (fun k S1 σ1 hk hp => by
        obtain ⟨g1, g2, g3⟩ := hp
        have c0 : ¬ nI ((rdR S).2 7 0) ≤ nI k := nI_ge hk (by omega)
        refine ⟨am_wI σ1 67 (60 * b + k) (nI ((rdR S).2 9 k)), ?_, mRep_b1 g1 hb (by omega), mCo_pr g2 g1.1 (fun a j q => by rw [am_I_wI, if_neg (by omega)]), g3.w (by rfl)⟩
        try dsimp only
        rw [s150_48]
        simp only [s150_49, s150_50, s150_53, s150_56, s150_57, s150_60, s150_62, s150_63, s150_64, s150_65, s150_66, s150_67, s150_70, s150_71, s150_72, s150_73, s150_76, am_pu_s, am_pu_n, va_rf_s, va_rf_n, Option.bind_some, true_or, or_true, eq_self, if_true, if_false, ite_self, ite_true, ite_false, ↓reduceIte, reduceCtorEq, Nat.reduceEqDiff, Nat.reduceAdd, Nat.reduceLT, Nat.reduceLeDiff, Nat.reduceMul, Nat.reduceSub, not_true_eq_false, not_false_eq_true, and_self, and_true, true_and, and_false, false_and, g1.1, kd66, rr66_0, rr66_33, g2.2.1.2.2.2.1, c0, nI_2D, ix84 g1.1 (show k < 60 by omega), nI_cl (show k < 2147483648 by omega), g2.2.2.1 k hk, ix67 g1.1 (show 60 * b + k < 240 by omega), nI_cl (show 60 * b + k < 2147483648 by omega), nI_add]) ((rdR S).2 7 0) 0 _ _ (by omega) ⟨h1, hr.1, p1.A_C.i⟩
      have h2' : mRep (sBe S b (rdR S).2 ((rdR S).2 7 0)) σ2 := h2
      have hF2 := h2.1
      have h3 : mRep (sU (sU (sBe S b (rdR S).2 ((rdR S).2 7 0)) 1 b ((rdR S).2 7 0)) 2 b ((rdR S).2 6 0)) (am_wI (am_wI σ2 68 b (nI ((rdR S).2 7 0))) 69 b (nI ((rdR S).2 6 0))) := mRep_sz h2' hb hF2 (by rw [am_I_wI, if_neg (by omega), am_I_wI, if_pos ⟨rfl, rfl⟩]) (fun _ => by rw [am_I_wI, if_pos ⟨rfl, rfl⟩]) (fun a k q => by rw [am_I_wI, if_neg (by omega), am_I_wI, if_neg (by omega)])
      rw [sU_Be _ (by decide), sU_Be _ (by decide)] at h3
      have e3 := m149 (X := X) (d := d + 6) h3 hb
      have h4 := mRep_me h3 hb
      have h5 := mRep_17 (x := S 17 0 0 + 1) h4
      have h6 := mRep_p0 h5
      rw [sU_c _ (show ¬ 17 = 14 by decide)] at h6
      have r17 : am_I (am_wI (am_wI (am_wI (am_wI (am_wI (am_wI σ2 68 b (nI ((rdR S).2 7 0))) 69 b (nI ((rdR S).2 6 0))) 75 (4 * b + 0) (nI 0)) 75 (4 * b + 1) (nI 0)) 75 (4 * b + 2) (nI 0)) 75 (4 * b + 3) (nI 0)) 66 3 = nI (S 17 0 0) := by
        have q := h4.2.2.2.2.2.2.2.1
        rw [sMe_o _ (by decide), sBe_o _ (by decide), sU_o _ (by decide), sU_o _ (by decide)] at q
        exact q
      have rn : am_I (am_wI (am_wI (am_wI (am_wI (am_wI (am_wI (am_wI (am_wI σ2 68 b (nI ((rdR S).2 7 0))) 69 b (nI ((rdR S).2 6 0))) 75 (4 * b + 0) (nI 0)) 75 (4 * b + 1) (nI 0)) 75 (4 * b + 2) (nI 0)) 75 (4 * b + 3) (nI 0)) 66 3 (nI (S 17 0 0 + 1))) 66 16 (nI 0)) 66 31 = nI ((rdR S).2 7 0) := by
        rw [am_I_wI, if_neg (by omega), am_I_wI, if_neg (by omega), am_I_wI, if_neg (by omega), am_I_wI, if_neg (by omega), am_I_wI, if_neg (by omega), am_I_wI, if_neg (by omega), am_I_wI, if_neg (by omega), am_I_wI, if_neg (by omega)]
        exact c2.2.1.2.2.2.1
      have pp : am_pi nsC σ (am_wI (am_wI (am_wI (am_wI (am_wI (am_wI (am_wI (am_wI σ2 68 b (nI ((rdR S).2 7 0))) 69 b (nI ((rdR S).2 6 0))) 75 (4 * b + 0) (nI 0)) 75 (4 * b + 1) (nI 0)) 75 (4 * b + 2) (nI 0)) 75 (4 * b + 3) (nI 0)) 66 3 (nI (S 17 0 0 + 1))) 66 16 (nI 0)) := (((((((p2.w (by rfl)).w (by rfl)).w (by rfl)).w (by rfl)).w (by rfl)).w (by rfl)).w (by rfl)).w (by rfl)
      refine ⟨_, ?_, h6, pp⟩
      have q31 := c2.2.1.2.2.2.1
      have q25 := c2.2.1.2.1
      have hF4 := h4.1
      have hF5 := h5.1
      have hF6 := h6.1
      simp only [s150_0, s150_1, s150_2, s150_3, s150_6, s150_9, s150_11, s150_12, s150_13, s150_16, s150_17, s150_18, s150_21, s150_24, s150_25, s150_28, s150_31, s150_32, s150_35, s150_38, s150_40, s150_43, s150_45, s150_46, s150_47, am_pu_s, am_pu_n, va_rf_s, va_rf_n, Option.bind_some, true_or, or_true, eq_self, if_true, if_false, ite_self, ite_true, ite_false, ↓reduceIte, reduceCtorEq, Nat.reduceEqDiff, Nat.reduceAdd, Nat.reduceLT, Nat.reduceLeDiff, Nat.reduceMul, Nat.reduceSub, not_true_eq_false, not_false_eq_true, and_self, and_true, true_and, and_false, false_and, m124, bI_t hb', nI_10, hF, hF1, kd66, e1, h18, r32]
      refine Eq.trans e2 ?_
      try dsimp only
      rw [s150_48]
      simp only [s150_49, s150_50, s150_53, s150_56, s150_57, s150_60, s150_62, s150_63, s150_64, s150_65, s150_66, s150_67, s150_70, s150_71, s150_72, s150_73, s150_76, s150_79, s150_80, s150_83, s150_84, s150_85, s150_88, s150_89, s150_90, s150_93, s150_94, s150_95, s150_98, s150_99, s150_100, s150_101, am_pu_s, am_pu_n, va_rf_s, va_rf_n, Option.bind_some, true_or, or_true, eq_self, if_true, if_false, ite_self, ite_true, ite_false, ↓reduceIte, reduceCtorEq, Nat.reduceEqDiff, Nat.reduceAdd, Nat.reduceLT, Nat.reduceLeDiff, Nat.reduceMul, Nat.reduceSub, not_true_eq_false, not_false_eq_true, and_self, and_true, true_and, and_false, false_and, am_I_wI, am_I_wJ, am_J_wI, am_J_wJ, am_R_wI, am_R_wJ, am_kd_wI, am_kd_wJ, am_ln_wI, am_ln_wJ, am_ix_wI, am_ix_wJ, am_F_wI, am_F_wJ, am_I_wC, am_J_wC, am_R_wC, am_kd_wC, am_ln_wC, am_ix_wC, am_F_wC, hF2, kd66, rr66_1, rr66_2, q31, q25, Int32.le_refl, ix68 hF2 hb, ix69 hF2 hb, nI_cl (show b < 2147483648 by omega)]
      rw [e3]
      simp only [s150_104, s150_105, s150_106, s150_109, s150_110, s150_111, s150_114, s150_115, s150_116, s150_119, s150_120, s150_123, am_pu_s, am_pu_n, va_rf_s, va_rf_n, Option.bind_some, true_or, or_true, eq_self, if_true, if_false, ite_self, ite_true, ite_false, ↓reduceIte, reduceCtorEq, Nat.reduceEqDiff, Nat.reduceAdd, Nat.reduceLT, Nat.reduceLeDiff, Nat.reduceMul, Nat.reduceSub, not_true_eq_false, not_false_eq_true, and_self, and_true, true_and, and_false, false_and, hF4, hF5, hF6, kd66, r17, nI_add, rn]
  · rw [if_pos cw]
    rw [bI_f cw] at h18
    refine ⟨σ1, ?_, h1, p1.A_C.i⟩
    simp only [s150_0, s150_1, s150_2, s150_3, s150_6, s150_9, s150_11, s150_12, s150_13, s150_16, s150_17, s150_18, s150_21, s150_24, s150_25, s150_28, s150_31, s150_32, s150_35, s150_38, s150_40, s150_43, s150_45, s150_46, s150_47, s150_48, s150_49, s150_50, s150_53, s150_56, s150_57, s150_60, s150_62, s150_63, s150_64, s150_65, s150_66, s150_67, s150_70, s150_71, s150_72, s150_73, s150_76, s150_79, s150_80, s150_83, s150_84, s150_85, s150_88, s150_89, s150_90, s150_93, s150_94, s150_95, s150_98, s150_99, s150_100, s150_101, s150_104, s150_105, s150_106, s150_109, s150_110, s150_111, s150_114, s150_115, s150_116, s150_119, s150_120, s150_123, am_pu_s, am_pu_n, va_rf_s, va_rf_n, Option.bind_some, true_or, or_true, eq_self, if_true, if_false, ite_self, ite_true, ite_false, ↓reduceIte, reduceCtorEq, Nat.reduceEqDiff, Nat.reduceAdd, Nat.reduceLT, Nat.reduceLeDiff, Nat.reduceMul, Nat.reduceSub, not_true_eq_false, not_false_eq_true, and_self, and_true, true_and, and_false, false_and, m124, bI_t hb', nI_10, hF, hF1, kd66, e1, h18]
end MU
