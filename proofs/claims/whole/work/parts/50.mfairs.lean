/-! fairs, of the model -/
section FM
variable {X : am_X} {d N n s : Nat} {σ : am_M} {S : am_St}
def rFr (S : am_St) (s n w : Nat) : Int32 := if w = 0 then nI (sFr S s n).2.1 else if w = 1 then nI (sFr S s n).2.2 else nI (sFr S s n).1
theorem m200 (h : mRep S σ) (hO : sOK N S) (hn : n ≤ 60) (hs : s < 2 ^ 31) (hG : 0 < S 4 0 0) {w : Nat} (hw : w < 3) : ∃ σ', am_v X (d + 6) 200 [.ref (66 : Nat), .int (nI n), .int (nI s), .int (nI w)] σ = some (some (.int (rFr S s n w)), σ') ∧ am_pi nsB σ σ' ∧ (∀ o k, ¬ (o = 66 ∧ k = 41) → am_J σ' o k = am_J σ o k) := by
  have hG4 := sO_G hO
  have loop : ∀ m k σ1 l7 l8 l9 l10, k + m = n → am_pi nsB σ σ1 → (∀ o k, ¬ (o = 66 ∧ k = 41) → am_J σ1 o k = am_J σ o k) → am_J σ1 66 41 = lN (sFr S s k).1 → ∃ σ', am_w X (d + 5) 200 15 [some (.ref (66 : Nat)), some (.int (nI n)), some (.int (nI s)), some (.int (nI w)), some (.int (nI (sFr S s k).2.1)), some (.int (nI (sFr S s k).2.2)), some (.int (nI k)), l7, l8, l9, l10] [] σ1 = some (some (.int (rFr S s n w)), σ') ∧ am_pi nsB σ σ' ∧ (∀ o k, ¬ (o = 66 ∧ k = 41) → am_J σ' o k = am_J σ o k) := by
    intro m
    induction m with
    | zero =>
      intro k σ1 l7 l8 l9 l10 hk hp1 g0 g1
      have hk : k = n := by omega
      subst hk
      have h1 := h.piB hp1
      refine ⟨σ1, ?_, hp1, g0⟩
      unfold rFr
      rw [s200_15]
      have hw3 : w = 0 ∨ w = 1 ∨ w = 2 := by omega
      rcases hw3 with rfl | rfl | rfl <;> simp only [s200_17, s200_18, s200_124, s200_125, s200_128, s200_130, s200_133, s200_134, s200_135, s200_138, s200_140, s200_143, s200_144, s200_147, s200_148, am_pu_s, am_pu_n, va_rf_s, va_rf_n, Option.bind_some, true_or, or_true, eq_self, if_true, if_false, ite_self, ite_true, ite_false, ↓reduceIte, reduceCtorEq, Nat.reduceEqDiff, Nat.reduceAdd, Nat.reduceLT, Nat.reduceLeDiff, Nat.reduceMul, Nat.reduceSub, not_true_eq_false, not_false_eq_true, and_self, and_true, true_and, and_false, false_and, Int32.le_refl, nI_EQ, h1.1, kd66, g1, lN_i]
    | succ m ih =>
      intro k σ1 l7 l8 l9 l10 hk hp1 g0 g1
      have h1 := h.piB hp1
      have hlt := sFr_lt S hs k
      have hI := ih (k + 1)
      rw [sFr] at hI
      dsimp only at hI
      unfold yFr tFr at hI
      generalize (sFr S s k).1 = a at g1 hlt hI
      generalize (sFr S s k).2.1 = p at hI ⊢
      generalize (sFr S s k).2.2 = c at hI ⊢
      have q0 : ¬ nI n ≤ nI k := nI_ge (by omega) (by omega)
      have hb : sDr a 4 < 4 := Nat.mod_lt _ (by decide)
      have hg : sDr (sNx a) (S 4 0 0) < S 4 0 0 := Nat.mod_lt _ hG
      have hg4 : sDr (sNx a) (S 4 0 0) < 4 := by omega
      have hwd : sDr (sNx (sNx a)) 7 < 7 := Nat.mod_lt _ (by decide)
      have e1 := m199 (X := X) (d := d + 4) h1.1 hlt (show 4 < 2 ^ 31 by decide) (by decide) g1
      have hp2 : am_pi nsB σ (am_wJ σ1 66 41 (lN (sNx a))) := hp1.wJ
      have j2 : am_J (am_wJ σ1 66 41 (lN (sNx a))) 66 41 = lN (sNx a) := by rw [am_J_wJ, if_pos ⟨rfl, rfl⟩]
      have k2 : ∀ o k, ¬ (o = 66 ∧ k = 41) → am_J (am_wJ σ1 66 41 (lN (sNx a))) o k = am_J σ o k := fun o k q => by rw [am_J_wJ, if_neg q]; exact g0 o k q
      generalize am_wJ σ1 66 41 (lN (sNx a)) = σ2 at e1 hp2 j2 k2
      have h2 := h.piB hp2
      have e2 := m199 (X := X) (d := d + 4) h2.1 (sNx_lt a) (show S 4 0 0 < 2 ^ 31 by omega) hG j2
      have hp3 : am_pi nsB σ (am_wJ σ2 66 41 (lN (sNx (sNx a)))) := hp2.wJ
      have j3 : am_J (am_wJ σ2 66 41 (lN (sNx (sNx a)))) 66 41 = lN (sNx (sNx a)) := by rw [am_J_wJ, if_pos ⟨rfl, rfl⟩]
      have k3 : ∀ o k, ¬ (o = 66 ∧ k = 41) → am_J (am_wJ σ2 66 41 (lN (sNx (sNx a)))) o k = am_J σ o k := fun o k q => by rw [am_J_wJ, if_neg q]; exact k2 o k q
      generalize am_wJ σ2 66 41 (lN (sNx (sNx a))) = σ3 at e2 hp3 j3 k3
      have h3 := h.piB hp3
      have e3 := m199 (X := X) (d := d + 4) h3.1 (sNx_lt (sNx a)) (show 7 < 2 ^ 31 by decide) (by decide) j3
      have hp4 : am_pi nsB σ (am_wJ σ3 66 41 (lN (sNx (sNx (sNx a))))) := hp3.wJ
      have j4 : am_J (am_wJ σ3 66 41 (lN (sNx (sNx (sNx a))))) 66 41 = lN (sNx (sNx (sNx a))) := by rw [am_J_wJ, if_pos ⟨rfl, rfl⟩]
      have k4 : ∀ o k, ¬ (o = 66 ∧ k = 41) → am_J (am_wJ σ3 66 41 (lN (sNx (sNx (sNx a))))) o k = am_J σ o k := fun o k q => by rw [am_J_wJ, if_neg q]; exact k3 o k q
      generalize am_wJ σ3 66 41 (lN (sNx (sNx (sNx a)))) = σ4 at e3 hp4 j4 k4
      have h4 := h.piB hp4
      have y1 := sW_le (S 5 (sDr (sNx a) (S 4 0 0)) 0) (S 0 (sDr a 4)) (sDr (sNx (sNx a)) 7) (S 1 (sDr a 4) 0)
      have y2 := sO_N hO hb
      have y3 := sO_T hO hg4
      have y4 : sW (S 5 (sDr (sNx a) (S 4 0 0)) 0) (S 0 (sDr a 4)) (sDr (sNx (sNx a)) 7) (S 1 (sDr a 4) 0) - S 3 (sDr a 4) (sDr (sNx a) (S 4 0 0)) ≤ 1260 := Nat.le_trans (Nat.sub_le _ _) (by omega)
      have st : ∃ σ5, am_w X (d + 5) 200 15 [some (.ref (66 : Nat)), some (.int (nI n)), some (.int (nI s)), some (.int (nI w)), some (.int (nI p)), some (.int (nI c)), some (.int (nI k)), l7, l8, l9, l10] [] σ1 = am_w X (d + 5) 200 77 [some (.ref (66 : Nat)), some (.int (nI n)), some (.int (nI s)), some (.int (nI w)), some (.int (nI p)), some (.int (nI c)), some (.int (nI k)), some (.int (nI (sDr a 4))), some (.int (nI (sDr (sNx a) (S 4 0 0)))), some (.int (nI (sDr (sNx (sNx a)) 7))), l10] [.int (nI (sW (S 5 (sDr (sNx a) (S 4 0 0)) 0) (S 0 (sDr a 4)) (sDr (sNx (sNx a)) 7) (S 1 (sDr a 4) 0) - S 3 (sDr a 4) (sDr (sNx a) (S 4 0 0))))] σ5 ∧ am_pr nsA σ4 σ5 := by
        have q2 : (nI (S 1 (sDr a 4) 0) = nI 0) = (S 1 (sDr a 4) 0 = 0) := nI_EQ (by omega) (by decide)
        by_cases hN0 : S 1 (sDr a 4) 0 = 0
        · refine ⟨σ4, ?_, am_pr.rf h4.1⟩
          have z : sW (S 5 (sDr (sNx a) (S 4 0 0)) 0) (S 0 (sDr a 4)) (sDr (sNx (sNx a)) 7) (S 1 (sDr a 4) 0) - S 3 (sDr a 4) (sDr (sNx a) (S 4 0 0)) = 0 := by omega
          rw [z, s200_15]
          simp only [s200_17, s200_18, s200_21, s200_22, s200_23, s200_26, s200_28, s200_29, s200_30, s200_33, s200_36, s200_38, s200_39, s200_41, s200_44, s200_46, s200_47, s200_50, s200_52, s200_53, s200_56, s200_57, am_pu_s, am_pu_n, va_rf_s, va_rf_n, Option.bind_some, true_or, or_true, eq_self, if_true, if_false, ite_self, ite_true, ite_false, ↓reduceIte, reduceCtorEq, Nat.reduceEqDiff, Nat.reduceAdd, Nat.reduceLT, Nat.reduceLeDiff, Nat.reduceMul, Nat.reduceSub, not_true_eq_false, not_false_eq_true, and_self, and_true, true_and, and_false, false_and, q0, h1.1, h2.1, h3.1, h4.1, kd66, rr66_1, mR_G h2, e1, e2, e3, ix68 h4.1 hb, nI_cl (show sDr a 4 < 2147483648 by omega), mR_N h4 hb, q2, hN0]
        · obtain ⟨σ5, e4, hp5⟩ := m175 (X := X) (d := d) h4 hO hb hg4 (show sDr (sNx (sNx a)) 7 < 64 by omega) (sO_N hO hb)
          refine ⟨σ5, ?_, hp5⟩
          rw [s200_15]
          simp only [s200_17, s200_18, s200_21, s200_22, s200_23, s200_26, s200_28, s200_29, s200_30, s200_33, s200_36, s200_38, s200_39, s200_41, s200_44, s200_46, s200_47, s200_50, s200_52, s200_53, s200_56, s200_57, s200_60, s200_61, s200_63, s200_65, s200_67, s200_68, s200_71, s200_73, s200_74, am_pu_s, am_pu_n, va_rf_s, va_rf_n, Option.bind_some, true_or, or_true, eq_self, if_true, if_false, ite_self, ite_true, ite_false, ↓reduceIte, reduceCtorEq, Nat.reduceEqDiff, Nat.reduceAdd, Nat.reduceLT, Nat.reduceLeDiff, Nat.reduceMul, Nat.reduceSub, not_true_eq_false, not_false_eq_true, and_self, and_true, true_and, and_false, false_and, q0, h1.1, h2.1, h3.1, h4.1, kd66, rr66_1, mR_G h2, e1, e2, e3, ix68 h4.1 hb, nI_cl (show sDr a 4 < 2147483648 by omega), mR_N h4 hb, q2, hN0, e4]
      obtain ⟨σ5, e4, hp5⟩ := st
      have hpp : am_pi nsB σ σ5 := hp4.tr hp5.A_B.i
      have h5 := h.piB hpp
      have j5 : am_J σ5 66 41 = lN (sNx (sNx (sNx a))) := (hp5.2.2 66 41).trans j4
      have k5 : ∀ o k, ¬ (o = 66 ∧ k = 41) → am_J σ5 o k = am_J σ o k := fun o k q => (hp5.2.2 o k).trans (k4 o k q)
      rw [e4]
      generalize sW (S 5 (sDr (sNx a) (S 4 0 0)) 0) (S 0 (sDr a 4)) (sDr (sNx (sNx a)) 7) (S 1 (sDr a 4) 0) - S 3 (sDr a 4) (sDr (sNx a) (S 4 0 0)) = y at hI y4 ⊢
      rw [s200_77]
      by_cases c1 : S 6 (sDr (sNx a) (S 4 0 0)) 0 ≤ y
      · rw [if_pos c1, if_pos c1] at hI
        have q3 : nI 0 ≤ nI (y - S 6 (sDr (sNx a) (S 4 0 0)) 0) := nI_le (by omega) (by omega)
        obtain ⟨σ', r1, r2⟩ := hI σ5 (some (.int (nI (sDr a 4)))) (some (.int (nI (sDr (sNx a) (S 4 0 0))))) (some (.int (nI (sDr (sNx (sNx a)) 7)))) (some (.int (nI (y - S 6 (sDr (sNx a) (S 4 0 0)) 0)))) (by omega) hpp k5 j5
        refine ⟨σ', ?_, r2⟩
        simp only [s200_78, s200_81, s200_83, s200_84, s200_85, s200_87, s200_89, s200_91, s200_94, s200_95, s200_98, s200_99, s200_100, s200_102, s200_104, s200_106, s200_109, s200_110, s200_113, s200_115, s200_116, s200_118, s200_121, am_pu_s, am_pu_n, va_rf_s, va_rf_n, Option.bind_some, true_or, or_true, eq_self, if_true, if_false, ite_self, ite_true, ite_false, ↓reduceIte, reduceCtorEq, Nat.reduceEqDiff, Nat.reduceAdd, Nat.reduceLT, Nat.reduceLeDiff, Nat.reduceMul, Nat.reduceSub, not_true_eq_false, not_false_eq_true, and_self, and_true, true_and, and_false, false_and, h5.1, kd66, rr66_7, ix71 h5.1 hg4, nI_cl (show sDr (sNx a) (S 4 0 0) < 2147483648 by omega), mR_T h5 hg4, pk_sub c1, q3, nI_add]
        exact r1
      · rw [if_neg c1, if_neg c1] at hI
        have q3 : ¬ nI 0 ≤ nI y - nI (S 6 (sDr (sNx a) (S 4 0 0)) 0) := Int32.not_le.mpr (pk_sneg (by omega) (by omega))
        obtain ⟨σ', r1, r2⟩ := hI σ5 (some (.int (nI (sDr a 4)))) (some (.int (nI (sDr (sNx a) (S 4 0 0))))) (some (.int (nI (sDr (sNx (sNx a)) 7)))) (some (.int (nI y - nI (S 6 (sDr (sNx a) (S 4 0 0)) 0)))) (by omega) hpp k5 j5
        refine ⟨σ', ?_, r2⟩
        simp only [s200_78, s200_81, s200_83, s200_84, s200_85, s200_87, s200_89, s200_91, s200_94, s200_95, s200_98, s200_99, s200_100, s200_102, s200_104, s200_106, s200_109, s200_110, s200_113, s200_115, s200_116, s200_118, s200_121, am_pu_s, am_pu_n, va_rf_s, va_rf_n, Option.bind_some, true_or, or_true, eq_self, if_true, if_false, ite_self, ite_true, ite_false, ↓reduceIte, reduceCtorEq, Nat.reduceEqDiff, Nat.reduceAdd, Nat.reduceLT, Nat.reduceLeDiff, Nat.reduceMul, Nat.reduceSub, not_true_eq_false, not_false_eq_true, and_self, and_true, true_and, and_false, false_and, h5.1, kd66, rr66_7, ix71 h5.1 hg4, nI_cl (show sDr (sNx a) (S 4 0 0) < 2147483648 by omega), mR_T h5 hg4, q3, nI_add, Nat.add_zero]
        exact r1
  have hF := h.1
  have hp0 : am_pi nsB σ (am_wJ σ 66 41 (lN s)) := (am_pi.rf hF).wJ
  obtain ⟨σ', r1, r2⟩ := loop n 0 _ none none none none (by omega) hp0 (fun o k q => by rw [am_J_wJ, if_neg q]) (by rw [am_J_wJ, if_pos ⟨rfl, rfl⟩, sFr])
  refine ⟨σ', ?_, r2⟩
  rw [sFr] at r1
  rw [s200]
  simp only [s200_0, s200_1, s200_2, s200_3, s200_6, s200_7, s200_9, s200_10, s200_12, s200_13, am_pu_s, am_pu_n, va_rf_s, va_rf_n, Option.bind_some, true_or, or_true, eq_self, if_true, if_false, ite_self, ite_true, ite_false, ↓reduceIte, reduceCtorEq, Nat.reduceEqDiff, Nat.reduceAdd, Nat.reduceLT, Nat.reduceLeDiff, Nat.reduceMul, Nat.reduceSub, not_true_eq_false, not_false_eq_true, and_self, and_true, true_and, and_false, false_and, am_I_wI, am_I_wJ, am_J_wI, am_J_wJ, am_R_wI, am_R_wJ, am_kd_wI, am_kd_wJ, am_ln_wI, am_ln_wJ, am_ix_wI, am_ix_wJ, am_F_wI, am_F_wJ, am_I_wC, am_J_wC, am_R_wC, am_kd_wC, am_ln_wC, am_ix_wC, am_F_wC, hF, kd66, lq_i2l hs]
  exact r1
end FM
