/-! what is copied: the model's image and restore -/
section MU
variable {X : am_X} {d N : Nat} {σ σ' : am_M} {S S' : am_St} {v w : Int32}
theorem m203_cp (hF : am_F σ) : ∃ σ', am_w X d 203 33 [some (.ref (66 : Nat)), some (.int (nI 0))] [] σ = am_w X d 203 219 [some (.ref (66 : Nat)), some (.int (nI 8))] [] σ' ∧ am_F σ' ∧ (∀ a k, (¬ a = 89 ∧ ¬ a = 90 ∧ ¬ a = 91 ∧ ¬ a = 92 ∧ ¬ a = 93 ∧ ¬ a = 94 ∧ ¬ a = 95 ∧ ¬ a = 96 ∧ ¬ a = 97 ∧ ¬ a = 98 ∧ ¬ a = 99) → am_I σ' a k = am_I σ a k) ∧ (∀ j, j < 240 → am_I σ' 89 j = am_I σ 67 j) ∧ (∀ j, j < 4 → am_I σ' 90 j = am_I σ 68 j) ∧ (∀ j, j < 4 → am_I σ' 91 j = am_I σ 69 j) ∧ (∀ j, j < 4 → am_I σ' 92 j = am_I σ 71 j) ∧ (∀ j, j < 4 → am_I σ' 93 j = am_I σ 72 j) ∧ (∀ j, j < 4 → am_I σ' 94 j = am_I σ 73 j) ∧ (∀ j, j < 4 → am_I σ' 95 j = am_I σ 74 j) ∧ (∀ j, j < 16 → am_I σ' 96 j = am_I σ 75 j) ∧ (∀ j, j < 8 → am_I σ' 97 j = am_I σ 76 j) ∧ (∀ j, j < 8 → am_I σ' 98 j = am_I σ 77 j) ∧ (∀ j, j < 8 → am_I σ' 99 j = am_I σ 78 j) := by
  obtain ⟨σa, ea, ia⟩ := am_lps (fun k (_ : Nat) σ1 => am_w X d 203 33 [some (.ref (66 : Nat)), some (.int (nI k))] [] σ1) (fun _ q => q) 240 (fun k _ σ1 => am_F σ1 ∧ (∀ a k, (¬ a = 89 ∧ ¬ a = 90 ∧ ¬ a = 91 ∧ ¬ a = 92 ∧ ¬ a = 93 ∧ ¬ a = 94 ∧ ¬ a = 95 ∧ ¬ a = 96 ∧ ¬ a = 97 ∧ ¬ a = 98 ∧ ¬ a = 99) → am_I σ1 a k = am_I σ a k) ∧ (∀ j, j < k → am_I σ1 89 j = am_I σ 67 j)) (fun k _ σ1 hk hp => by
    obtain ⟨hF1, fr, xB⟩ := hp
    have c0 : ¬ nI 240 ≤ nI k := nI_ge hk (by decide)
    refine ⟨(am_wI σ1 89 k (am_I σ 67 k)), ?_, hF1, fun a j q => by rw [am_I_wI, if_neg (by omega)]; exact fr a j q, fun j hj => by
      rw [am_I_wI]
      by_cases e : j = k
      · rw [if_pos ⟨rfl, e⟩, e]
      · rw [if_neg (fun q => e q.2)]
        exact xB j (by omega)⟩
    have fr' := fun a h => fr a k h
    try dsimp only
    rw [s203_33]
    simp only [s203_34, s203_37, s203_40, s203_41, s203_44, s203_45, s203_46, s203_49, s203_50, s203_51, s203_52, s203_55, am_pu_s, am_pu_n, va_rf_s, va_rf_n, Option.bind_some, true_or, or_true, eq_self, if_true, if_false, ite_self, ite_true, ite_false, ↓reduceIte, reduceCtorEq, Nat.reduceEqDiff, Nat.reduceAdd, Nat.reduceLT, Nat.reduceLeDiff, Nat.reduceMul, Nat.reduceSub, not_true_eq_false, not_false_eq_true, and_self, and_true, true_and, and_false, false_and, am_I_wI, am_I_wJ, am_J_wI, am_J_wJ, am_R_wI, am_R_wJ, am_kd_wI, am_kd_wJ, am_ln_wI, am_ln_wJ, am_ix_wI, am_ix_wJ, am_F_wI, am_F_wJ, am_I_wC, am_J_wC, am_R_wC, am_kd_wC, am_ln_wC, am_ix_wC, am_F_wC, hF1, kd66, rr66_0, rr66_45, c0, ix67 hF1 (show k < 240 by omega), ix89 hF1 (show k < 240 by omega), fr 67 k (by omega), nI_cl (show k < 2147483648 by omega), nI_add]) 240 0 0 σ (by omega) ⟨hF, fun _ _ _ => rfl, fun j hj => absurd hj (by omega)⟩
  obtain ⟨σb, eb, ib⟩ := am_lps (fun k (_ : Nat) σ1 => am_w X d 203 60 [some (.ref (66 : Nat)), some (.int (nI k))] [] σ1) (fun _ q => q) 4 (fun k _ σ1 => am_F σ1 ∧ (∀ a k, (¬ a = 89 ∧ ¬ a = 90 ∧ ¬ a = 91 ∧ ¬ a = 92 ∧ ¬ a = 93 ∧ ¬ a = 94 ∧ ¬ a = 95 ∧ ¬ a = 96 ∧ ¬ a = 97 ∧ ¬ a = 98 ∧ ¬ a = 99) → am_I σ1 a k = am_I σ a k) ∧ (∀ j, j < 240 → am_I σ1 89 j = am_I σ 67 j) ∧ (∀ j, j < k → am_I σ1 90 j = am_I σ 68 j) ∧ (∀ j, j < k → am_I σ1 91 j = am_I σ 69 j) ∧ (∀ j, j < k → am_I σ1 92 j = am_I σ 71 j) ∧ (∀ j, j < k → am_I σ1 93 j = am_I σ 72 j) ∧ (∀ j, j < k → am_I σ1 94 j = am_I σ 73 j) ∧ (∀ j, j < k → am_I σ1 95 j = am_I σ 74 j)) (fun k _ σ1 hk hp => by
    obtain ⟨hF1, fr, d0, xN, xD, xT, xW, xP, xO⟩ := hp
    have c0 : ¬ nI 4 ≤ nI k := nI_ge hk (by decide)
    refine ⟨(am_wI (am_wI (am_wI (am_wI (am_wI (am_wI σ1 90 k (am_I σ 68 k)) 91 k (am_I σ 69 k)) 92 k (am_I σ 71 k)) 93 k (am_I σ 72 k)) 94 k (am_I σ 73 k)) 95 k (am_I σ 74 k)), ?_, hF1, fun a j q => by rw [am_I_wI, if_neg (by omega), am_I_wI, if_neg (by omega), am_I_wI, if_neg (by omega), am_I_wI, if_neg (by omega), am_I_wI, if_neg (by omega), am_I_wI, if_neg (by omega)]; exact fr a j q, fun j hj => by rw [am_I_wI, if_neg (by omega), am_I_wI, if_neg (by omega), am_I_wI, if_neg (by omega), am_I_wI, if_neg (by omega), am_I_wI, if_neg (by omega), am_I_wI, if_neg (by omega)]; exact d0 j hj, fun j hj => by
      rw [am_I_wI, if_neg (by omega), am_I_wI, if_neg (by omega), am_I_wI, if_neg (by omega), am_I_wI, if_neg (by omega), am_I_wI, if_neg (by omega), am_I_wI]
      by_cases e : j = k
      · rw [if_pos ⟨rfl, e⟩, e]
      · rw [if_neg (fun q => e q.2)]
        exact xN j (by omega), fun j hj => by
      rw [am_I_wI, if_neg (by omega), am_I_wI, if_neg (by omega), am_I_wI, if_neg (by omega), am_I_wI, if_neg (by omega), am_I_wI]
      by_cases e : j = k
      · rw [if_pos ⟨rfl, e⟩, e]
      · rw [if_neg (fun q => e q.2), am_I_wI, if_neg (by omega)]
        exact xD j (by omega), fun j hj => by
      rw [am_I_wI, if_neg (by omega), am_I_wI, if_neg (by omega), am_I_wI, if_neg (by omega), am_I_wI]
      by_cases e : j = k
      · rw [if_pos ⟨rfl, e⟩, e]
      · rw [if_neg (fun q => e q.2), am_I_wI, if_neg (by omega), am_I_wI, if_neg (by omega)]
        exact xT j (by omega), fun j hj => by
      rw [am_I_wI, if_neg (by omega), am_I_wI, if_neg (by omega), am_I_wI]
      by_cases e : j = k
      · rw [if_pos ⟨rfl, e⟩, e]
      · rw [if_neg (fun q => e q.2), am_I_wI, if_neg (by omega), am_I_wI, if_neg (by omega), am_I_wI, if_neg (by omega)]
        exact xW j (by omega), fun j hj => by
      rw [am_I_wI, if_neg (by omega), am_I_wI]
      by_cases e : j = k
      · rw [if_pos ⟨rfl, e⟩, e]
      · rw [if_neg (fun q => e q.2), am_I_wI, if_neg (by omega), am_I_wI, if_neg (by omega), am_I_wI, if_neg (by omega), am_I_wI, if_neg (by omega)]
        exact xP j (by omega), fun j hj => by
      rw [am_I_wI]
      by_cases e : j = k
      · rw [if_pos ⟨rfl, e⟩, e]
      · rw [if_neg (fun q => e q.2), am_I_wI, if_neg (by omega), am_I_wI, if_neg (by omega), am_I_wI, if_neg (by omega), am_I_wI, if_neg (by omega), am_I_wI, if_neg (by omega)]
        exact xO j (by omega)⟩
    have fr' := fun a h => fr a k h
    try dsimp only
    rw [s203_60]
    simp only [s203_61, s203_62, s203_65, s203_66, s203_69, s203_70, s203_71, s203_74, s203_75, s203_76, s203_77, s203_78, s203_81, s203_82, s203_83, s203_86, s203_87, s203_88, s203_89, s203_90, s203_93, s203_94, s203_95, s203_98, s203_99, s203_100, s203_101, s203_102, s203_105, s203_106, s203_107, s203_110, s203_111, s203_112, s203_113, s203_114, s203_117, s203_118, s203_119, s203_122, s203_123, s203_124, s203_125, s203_126, s203_129, s203_130, s203_131, s203_134, s203_135, s203_136, s203_137, s203_140, am_pu_s, am_pu_n, va_rf_s, va_rf_n, Option.bind_some, true_or, or_true, eq_self, if_true, if_false, ite_self, ite_true, ite_false, ↓reduceIte, reduceCtorEq, Nat.reduceEqDiff, Nat.reduceAdd, Nat.reduceLT, Nat.reduceLeDiff, Nat.reduceMul, Nat.reduceSub, not_true_eq_false, not_false_eq_true, and_self, and_true, true_and, and_false, false_and, am_I_wI, am_I_wJ, am_J_wI, am_J_wJ, am_R_wI, am_R_wJ, am_kd_wI, am_kd_wJ, am_ln_wI, am_ln_wJ, am_ix_wI, am_ix_wJ, am_F_wI, am_F_wJ, am_I_wC, am_J_wC, am_R_wC, am_kd_wC, am_ln_wC, am_ix_wC, am_F_wC, hF1, kd66, rr66_1, rr66_46, rr66_2, rr66_47, rr66_7, rr66_48, rr66_8, rr66_49, rr66_9, rr66_50, rr66_10, rr66_51, c0, ix68 hF1 (show k < 4 by omega), ix90 hF1 (show k < 4 by omega), ix69 hF1 (show k < 4 by omega), ix91 hF1 (show k < 4 by omega), ix71 hF1 (show k < 4 by omega), ix92 hF1 (show k < 4 by omega), ix72 hF1 (show k < 4 by omega), ix93 hF1 (show k < 4 by omega), ix73 hF1 (show k < 4 by omega), ix94 hF1 (show k < 4 by omega), ix74 hF1 (show k < 4 by omega), ix95 hF1 (show k < 4 by omega), fr 68 k (by omega), fr 69 k (by omega), fr 71 k (by omega), fr 72 k (by omega), fr 73 k (by omega), fr 74 k (by omega), nI_cl (show k < 2147483648 by omega), nI_add]) 4 0 0 σa (by omega) ⟨ia.1, ia.2.1, ia.2.2, fun j hj => absurd hj (by omega), fun j hj => absurd hj (by omega), fun j hj => absurd hj (by omega), fun j hj => absurd hj (by omega), fun j hj => absurd hj (by omega), fun j hj => absurd hj (by omega)⟩
  obtain ⟨σc, ec, ic⟩ := am_lps (fun k (_ : Nat) σ1 => am_w X d 203 145 [some (.ref (66 : Nat)), some (.int (nI k))] [] σ1) (fun _ q => q) 16 (fun k _ σ1 => am_F σ1 ∧ (∀ a k, (¬ a = 89 ∧ ¬ a = 90 ∧ ¬ a = 91 ∧ ¬ a = 92 ∧ ¬ a = 93 ∧ ¬ a = 94 ∧ ¬ a = 95 ∧ ¬ a = 96 ∧ ¬ a = 97 ∧ ¬ a = 98 ∧ ¬ a = 99) → am_I σ1 a k = am_I σ a k) ∧ (∀ j, j < 240 → am_I σ1 89 j = am_I σ 67 j) ∧ (∀ j, j < 4 → am_I σ1 90 j = am_I σ 68 j) ∧ (∀ j, j < 4 → am_I σ1 91 j = am_I σ 69 j) ∧ (∀ j, j < 4 → am_I σ1 92 j = am_I σ 71 j) ∧ (∀ j, j < 4 → am_I σ1 93 j = am_I σ 72 j) ∧ (∀ j, j < 4 → am_I σ1 94 j = am_I σ 73 j) ∧ (∀ j, j < 4 → am_I σ1 95 j = am_I σ 74 j) ∧ (∀ j, j < k → am_I σ1 96 j = am_I σ 75 j)) (fun k _ σ1 hk hp => by
    obtain ⟨hF1, fr, d0, d1, d2, d3, d4, d5, d6, xY⟩ := hp
    have c0 : ¬ nI 16 ≤ nI k := nI_ge hk (by decide)
    refine ⟨(am_wI σ1 96 k (am_I σ 75 k)), ?_, hF1, fun a j q => by rw [am_I_wI, if_neg (by omega)]; exact fr a j q, fun j hj => by rw [am_I_wI, if_neg (by omega)]; exact d0 j hj, fun j hj => by rw [am_I_wI, if_neg (by omega)]; exact d1 j hj, fun j hj => by rw [am_I_wI, if_neg (by omega)]; exact d2 j hj, fun j hj => by rw [am_I_wI, if_neg (by omega)]; exact d3 j hj, fun j hj => by rw [am_I_wI, if_neg (by omega)]; exact d4 j hj, fun j hj => by rw [am_I_wI, if_neg (by omega)]; exact d5 j hj, fun j hj => by rw [am_I_wI, if_neg (by omega)]; exact d6 j hj, fun j hj => by
      rw [am_I_wI]
      by_cases e : j = k
      · rw [if_pos ⟨rfl, e⟩, e]
      · rw [if_neg (fun q => e q.2)]
        exact xY j (by omega)⟩
    have fr' := fun a h => fr a k h
    try dsimp only
    rw [s203_145]
    simp only [s203_146, s203_148, s203_151, s203_152, s203_155, s203_156, s203_157, s203_160, s203_161, s203_162, s203_163, s203_166, am_pu_s, am_pu_n, va_rf_s, va_rf_n, Option.bind_some, true_or, or_true, eq_self, if_true, if_false, ite_self, ite_true, ite_false, ↓reduceIte, reduceCtorEq, Nat.reduceEqDiff, Nat.reduceAdd, Nat.reduceLT, Nat.reduceLeDiff, Nat.reduceMul, Nat.reduceSub, not_true_eq_false, not_false_eq_true, and_self, and_true, true_and, and_false, false_and, am_I_wI, am_I_wJ, am_J_wI, am_J_wJ, am_R_wI, am_R_wJ, am_kd_wI, am_kd_wJ, am_ln_wI, am_ln_wJ, am_ix_wI, am_ix_wJ, am_F_wI, am_F_wJ, am_I_wC, am_J_wC, am_R_wC, am_kd_wC, am_ln_wC, am_ix_wC, am_F_wC, hF1, kd66, rr66_11, rr66_52, c0, ix75 hF1 (show k < 16 by omega), ix96 hF1 (show k < 16 by omega), fr 75 k (by omega), nI_cl (show k < 2147483648 by omega), nI_add]) 16 0 0 σb (by omega) ⟨ib.1, ib.2.1, ib.2.2.1, ib.2.2.2.1, ib.2.2.2.2.1, ib.2.2.2.2.2.1, ib.2.2.2.2.2.2.1, ib.2.2.2.2.2.2.2.1, ib.2.2.2.2.2.2.2.2, fun j hj => absurd hj (by omega)⟩
  obtain ⟨σe, ee, ie⟩ := am_lps (fun k (_ : Nat) σ1 => am_w X d 203 171 [some (.ref (66 : Nat)), some (.int (nI k))] [] σ1) (fun _ q => q) 8 (fun k _ σ1 => am_F σ1 ∧ (∀ a k, (¬ a = 89 ∧ ¬ a = 90 ∧ ¬ a = 91 ∧ ¬ a = 92 ∧ ¬ a = 93 ∧ ¬ a = 94 ∧ ¬ a = 95 ∧ ¬ a = 96 ∧ ¬ a = 97 ∧ ¬ a = 98 ∧ ¬ a = 99) → am_I σ1 a k = am_I σ a k) ∧ (∀ j, j < 240 → am_I σ1 89 j = am_I σ 67 j) ∧ (∀ j, j < 4 → am_I σ1 90 j = am_I σ 68 j) ∧ (∀ j, j < 4 → am_I σ1 91 j = am_I σ 69 j) ∧ (∀ j, j < 4 → am_I σ1 92 j = am_I σ 71 j) ∧ (∀ j, j < 4 → am_I σ1 93 j = am_I σ 72 j) ∧ (∀ j, j < 4 → am_I σ1 94 j = am_I σ 73 j) ∧ (∀ j, j < 4 → am_I σ1 95 j = am_I σ 74 j) ∧ (∀ j, j < 16 → am_I σ1 96 j = am_I σ 75 j) ∧ (∀ j, j < k → am_I σ1 97 j = am_I σ 76 j) ∧ (∀ j, j < k → am_I σ1 98 j = am_I σ 77 j) ∧ (∀ j, j < k → am_I σ1 99 j = am_I σ 78 j)) (fun k _ σ1 hk hp => by
    obtain ⟨hF1, fr, d0, d1, d2, d3, d4, d5, d6, d7, xG, xA, xV⟩ := hp
    have c0 : ¬ nI 8 ≤ nI k := nI_ge hk (by decide)
    refine ⟨(am_wI (am_wI (am_wI σ1 97 k (am_I σ 76 k)) 98 k (am_I σ 77 k)) 99 k (am_I σ 78 k)), ?_, hF1, fun a j q => by rw [am_I_wI, if_neg (by omega), am_I_wI, if_neg (by omega), am_I_wI, if_neg (by omega)]; exact fr a j q, fun j hj => by rw [am_I_wI, if_neg (by omega), am_I_wI, if_neg (by omega), am_I_wI, if_neg (by omega)]; exact d0 j hj, fun j hj => by rw [am_I_wI, if_neg (by omega), am_I_wI, if_neg (by omega), am_I_wI, if_neg (by omega)]; exact d1 j hj, fun j hj => by rw [am_I_wI, if_neg (by omega), am_I_wI, if_neg (by omega), am_I_wI, if_neg (by omega)]; exact d2 j hj, fun j hj => by rw [am_I_wI, if_neg (by omega), am_I_wI, if_neg (by omega), am_I_wI, if_neg (by omega)]; exact d3 j hj, fun j hj => by rw [am_I_wI, if_neg (by omega), am_I_wI, if_neg (by omega), am_I_wI, if_neg (by omega)]; exact d4 j hj, fun j hj => by rw [am_I_wI, if_neg (by omega), am_I_wI, if_neg (by omega), am_I_wI, if_neg (by omega)]; exact d5 j hj, fun j hj => by rw [am_I_wI, if_neg (by omega), am_I_wI, if_neg (by omega), am_I_wI, if_neg (by omega)]; exact d6 j hj, fun j hj => by rw [am_I_wI, if_neg (by omega), am_I_wI, if_neg (by omega), am_I_wI, if_neg (by omega)]; exact d7 j hj, fun j hj => by
      rw [am_I_wI, if_neg (by omega), am_I_wI, if_neg (by omega), am_I_wI]
      by_cases e : j = k
      · rw [if_pos ⟨rfl, e⟩, e]
      · rw [if_neg (fun q => e q.2)]
        exact xG j (by omega), fun j hj => by
      rw [am_I_wI, if_neg (by omega), am_I_wI]
      by_cases e : j = k
      · rw [if_pos ⟨rfl, e⟩, e]
      · rw [if_neg (fun q => e q.2), am_I_wI, if_neg (by omega)]
        exact xA j (by omega), fun j hj => by
      rw [am_I_wI]
      by_cases e : j = k
      · rw [if_pos ⟨rfl, e⟩, e]
      · rw [if_neg (fun q => e q.2), am_I_wI, if_neg (by omega), am_I_wI, if_neg (by omega)]
        exact xV j (by omega)⟩
    have fr' := fun a h => fr a k h
    try dsimp only
    rw [s203_171]
    simp only [s203_172, s203_174, s203_177, s203_178, s203_181, s203_182, s203_183, s203_186, s203_187, s203_188, s203_189, s203_190, s203_193, s203_194, s203_195, s203_198, s203_199, s203_200, s203_201, s203_202, s203_205, s203_206, s203_207, s203_210, s203_211, s203_212, s203_213, s203_216, am_pu_s, am_pu_n, va_rf_s, va_rf_n, Option.bind_some, true_or, or_true, eq_self, if_true, if_false, ite_self, ite_true, ite_false, ↓reduceIte, reduceCtorEq, Nat.reduceEqDiff, Nat.reduceAdd, Nat.reduceLT, Nat.reduceLeDiff, Nat.reduceMul, Nat.reduceSub, not_true_eq_false, not_false_eq_true, and_self, and_true, true_and, and_false, false_and, am_I_wI, am_I_wJ, am_J_wI, am_J_wJ, am_R_wI, am_R_wJ, am_kd_wI, am_kd_wJ, am_ln_wI, am_ln_wJ, am_ix_wI, am_ix_wJ, am_F_wI, am_F_wJ, am_I_wC, am_J_wC, am_R_wC, am_kd_wC, am_ln_wC, am_ix_wC, am_F_wC, hF1, kd66, rr66_13, rr66_53, rr66_14, rr66_54, rr66_15, rr66_55, c0, ix76 hF1 (show k < 8 by omega), ix97 hF1 (show k < 8 by omega), ix77 hF1 (show k < 8 by omega), ix98 hF1 (show k < 8 by omega), ix78 hF1 (show k < 8 by omega), ix99 hF1 (show k < 8 by omega), fr 76 k (by omega), fr 77 k (by omega), fr 78 k (by omega), nI_cl (show k < 2147483648 by omega), nI_add]) 8 0 0 σc (by omega) ⟨ic.1, ic.2.1, ic.2.2.1, ic.2.2.2.1, ic.2.2.2.2.1, ic.2.2.2.2.2.1, ic.2.2.2.2.2.2.1, ic.2.2.2.2.2.2.2.1, ic.2.2.2.2.2.2.2.2.1, ic.2.2.2.2.2.2.2.2.2, fun j hj => absurd hj (by omega), fun j hj => absurd hj (by omega), fun j hj => absurd hj (by omega)⟩
  have t0 : nI 240 ≤ nI 240 := Int32.le_refl _
  have t1 : nI 4 ≤ nI 4 := Int32.le_refl _
  have t2 : nI 16 ≤ nI 16 := Int32.le_refl _
  have t3 : nI 8 ≤ nI 8 := Int32.le_refl _
  refine ⟨σe, ?_, ie⟩
  refine Eq.trans ea ?_
  try dsimp only
  rw [s203_33]
  simp only [s203_34, s203_37, s203_58, s203_59, am_pu_s, am_pu_n, va_rf_s, va_rf_n, Option.bind_some, true_or, or_true, eq_self, if_true, if_false, ite_self, ite_true, ite_false, ↓reduceIte, reduceCtorEq, Nat.reduceEqDiff, Nat.reduceAdd, Nat.reduceLT, Nat.reduceLeDiff, Nat.reduceMul, Nat.reduceSub, not_true_eq_false, not_false_eq_true, and_self, and_true, true_and, and_false, false_and, t0]
  refine Eq.trans eb ?_
  try dsimp only
  rw [s203_60]
  simp only [s203_61, s203_62, s203_143, s203_144, am_pu_s, am_pu_n, va_rf_s, va_rf_n, Option.bind_some, true_or, or_true, eq_self, if_true, if_false, ite_self, ite_true, ite_false, ↓reduceIte, reduceCtorEq, Nat.reduceEqDiff, Nat.reduceAdd, Nat.reduceLT, Nat.reduceLeDiff, Nat.reduceMul, Nat.reduceSub, not_true_eq_false, not_false_eq_true, and_self, and_true, true_and, and_false, false_and, t1]
  refine Eq.trans ec ?_
  try dsimp only
  rw [s203_145]
  simp only [s203_146, s203_148, s203_169, s203_170, am_pu_s, am_pu_n, va_rf_s, va_rf_n, Option.bind_some, true_or, or_true, eq_self, if_true, if_false, ite_self, ite_true, ite_false, ↓reduceIte, reduceCtorEq, Nat.reduceEqDiff, Nat.reduceAdd, Nat.reduceLT, Nat.reduceLeDiff, Nat.reduceMul, Nat.reduceSub, not_true_eq_false, not_false_eq_true, and_self, and_true, true_and, and_false, false_and, t2]
  refine Eq.trans ee ?_
  try dsimp only
  rw [s203_171]
  simp only [s203_172, s203_174, am_pu_s, am_pu_n, va_rf_s, va_rf_n, Option.bind_some, true_or, or_true, eq_self, if_true, if_false, ite_self, ite_true, ite_false, ↓reduceIte, reduceCtorEq, Nat.reduceEqDiff, Nat.reduceAdd, Nat.reduceLT, Nat.reduceLeDiff, Nat.reduceMul, Nat.reduceSub, not_true_eq_false, not_false_eq_true, and_self, and_true, true_and, and_false, false_and, t3]
theorem m204_cp (hF : am_F σ) : ∃ σ', am_w X d 204 31 [some (.ref (66 : Nat)), some (.int (nI 0))] [] σ = am_w X d 204 217 [some (.ref (66 : Nat)), some (.int (nI 8))] [] σ' ∧ am_F σ' ∧ (∀ a k, (¬ a = 67 ∧ ¬ a = 68 ∧ ¬ a = 69 ∧ ¬ a = 71 ∧ ¬ a = 72 ∧ ¬ a = 73 ∧ ¬ a = 74 ∧ ¬ a = 75 ∧ ¬ a = 76 ∧ ¬ a = 77 ∧ ¬ a = 78) → am_I σ' a k = am_I σ a k) ∧ (∀ j, j < 240 → am_I σ' 67 j = am_I σ 89 j) ∧ (∀ j, j < 4 → am_I σ' 68 j = am_I σ 90 j) ∧ (∀ j, j < 4 → am_I σ' 69 j = am_I σ 91 j) ∧ (∀ j, j < 4 → am_I σ' 71 j = am_I σ 92 j) ∧ (∀ j, j < 4 → am_I σ' 72 j = am_I σ 93 j) ∧ (∀ j, j < 4 → am_I σ' 73 j = am_I σ 94 j) ∧ (∀ j, j < 4 → am_I σ' 74 j = am_I σ 95 j) ∧ (∀ j, j < 16 → am_I σ' 75 j = am_I σ 96 j) ∧ (∀ j, j < 8 → am_I σ' 76 j = am_I σ 97 j) ∧ (∀ j, j < 8 → am_I σ' 77 j = am_I σ 98 j) ∧ (∀ j, j < 8 → am_I σ' 78 j = am_I σ 99 j) := by
  obtain ⟨σa, ea, ia⟩ := am_lps (fun k (_ : Nat) σ1 => am_w X d 204 31 [some (.ref (66 : Nat)), some (.int (nI k))] [] σ1) (fun _ q => q) 240 (fun k _ σ1 => am_F σ1 ∧ (∀ a k, (¬ a = 67 ∧ ¬ a = 68 ∧ ¬ a = 69 ∧ ¬ a = 71 ∧ ¬ a = 72 ∧ ¬ a = 73 ∧ ¬ a = 74 ∧ ¬ a = 75 ∧ ¬ a = 76 ∧ ¬ a = 77 ∧ ¬ a = 78) → am_I σ1 a k = am_I σ a k) ∧ (∀ j, j < k → am_I σ1 67 j = am_I σ 89 j)) (fun k _ σ1 hk hp => by
    obtain ⟨hF1, fr, xB⟩ := hp
    have c0 : ¬ nI 240 ≤ nI k := nI_ge hk (by decide)
    refine ⟨(am_wI σ1 67 k (am_I σ 89 k)), ?_, hF1, fun a j q => by rw [am_I_wI, if_neg (by omega)]; exact fr a j q, fun j hj => by
      rw [am_I_wI]
      by_cases e : j = k
      · rw [if_pos ⟨rfl, e⟩, e]
      · rw [if_neg (fun q => e q.2)]
        exact xB j (by omega)⟩
    have fr' := fun a h => fr a k h
    try dsimp only
    rw [s204_31]
    simp only [s204_32, s204_35, s204_38, s204_39, s204_42, s204_43, s204_44, s204_47, s204_48, s204_49, s204_50, s204_53, am_pu_s, am_pu_n, va_rf_s, va_rf_n, Option.bind_some, true_or, or_true, eq_self, if_true, if_false, ite_self, ite_true, ite_false, ↓reduceIte, reduceCtorEq, Nat.reduceEqDiff, Nat.reduceAdd, Nat.reduceLT, Nat.reduceLeDiff, Nat.reduceMul, Nat.reduceSub, not_true_eq_false, not_false_eq_true, and_self, and_true, true_and, and_false, false_and, am_I_wI, am_I_wJ, am_J_wI, am_J_wJ, am_R_wI, am_R_wJ, am_kd_wI, am_kd_wJ, am_ln_wI, am_ln_wJ, am_ix_wI, am_ix_wJ, am_F_wI, am_F_wJ, am_I_wC, am_J_wC, am_R_wC, am_kd_wC, am_ln_wC, am_ix_wC, am_F_wC, hF1, kd66, rr66_45, rr66_0, c0, ix89 hF1 (show k < 240 by omega), ix67 hF1 (show k < 240 by omega), fr 89 k (by omega), nI_cl (show k < 2147483648 by omega), nI_add]) 240 0 0 σ (by omega) ⟨hF, fun _ _ _ => rfl, fun j hj => absurd hj (by omega)⟩
  obtain ⟨σb, eb, ib⟩ := am_lps (fun k (_ : Nat) σ1 => am_w X d 204 58 [some (.ref (66 : Nat)), some (.int (nI k))] [] σ1) (fun _ q => q) 4 (fun k _ σ1 => am_F σ1 ∧ (∀ a k, (¬ a = 67 ∧ ¬ a = 68 ∧ ¬ a = 69 ∧ ¬ a = 71 ∧ ¬ a = 72 ∧ ¬ a = 73 ∧ ¬ a = 74 ∧ ¬ a = 75 ∧ ¬ a = 76 ∧ ¬ a = 77 ∧ ¬ a = 78) → am_I σ1 a k = am_I σ a k) ∧ (∀ j, j < 240 → am_I σ1 67 j = am_I σ 89 j) ∧ (∀ j, j < k → am_I σ1 68 j = am_I σ 90 j) ∧ (∀ j, j < k → am_I σ1 69 j = am_I σ 91 j) ∧ (∀ j, j < k → am_I σ1 71 j = am_I σ 92 j) ∧ (∀ j, j < k → am_I σ1 72 j = am_I σ 93 j) ∧ (∀ j, j < k → am_I σ1 73 j = am_I σ 94 j) ∧ (∀ j, j < k → am_I σ1 74 j = am_I σ 95 j)) (fun k _ σ1 hk hp => by
    obtain ⟨hF1, fr, d0, xN, xD, xT, xW, xP, xO⟩ := hp
    have c0 : ¬ nI 4 ≤ nI k := nI_ge hk (by decide)
    refine ⟨(am_wI (am_wI (am_wI (am_wI (am_wI (am_wI σ1 68 k (am_I σ 90 k)) 69 k (am_I σ 91 k)) 71 k (am_I σ 92 k)) 72 k (am_I σ 93 k)) 73 k (am_I σ 94 k)) 74 k (am_I σ 95 k)), ?_, hF1, fun a j q => by rw [am_I_wI, if_neg (by omega), am_I_wI, if_neg (by omega), am_I_wI, if_neg (by omega), am_I_wI, if_neg (by omega), am_I_wI, if_neg (by omega), am_I_wI, if_neg (by omega)]; exact fr a j q, fun j hj => by rw [am_I_wI, if_neg (by omega), am_I_wI, if_neg (by omega), am_I_wI, if_neg (by omega), am_I_wI, if_neg (by omega), am_I_wI, if_neg (by omega), am_I_wI, if_neg (by omega)]; exact d0 j hj, fun j hj => by
      rw [am_I_wI, if_neg (by omega), am_I_wI, if_neg (by omega), am_I_wI, if_neg (by omega), am_I_wI, if_neg (by omega), am_I_wI, if_neg (by omega), am_I_wI]
      by_cases e : j = k
      · rw [if_pos ⟨rfl, e⟩, e]
      · rw [if_neg (fun q => e q.2)]
        exact xN j (by omega), fun j hj => by
      rw [am_I_wI, if_neg (by omega), am_I_wI, if_neg (by omega), am_I_wI, if_neg (by omega), am_I_wI, if_neg (by omega), am_I_wI]
      by_cases e : j = k
      · rw [if_pos ⟨rfl, e⟩, e]
      · rw [if_neg (fun q => e q.2), am_I_wI, if_neg (by omega)]
        exact xD j (by omega), fun j hj => by
      rw [am_I_wI, if_neg (by omega), am_I_wI, if_neg (by omega), am_I_wI, if_neg (by omega), am_I_wI]
      by_cases e : j = k
      · rw [if_pos ⟨rfl, e⟩, e]
      · rw [if_neg (fun q => e q.2), am_I_wI, if_neg (by omega), am_I_wI, if_neg (by omega)]
        exact xT j (by omega), fun j hj => by
      rw [am_I_wI, if_neg (by omega), am_I_wI, if_neg (by omega), am_I_wI]
      by_cases e : j = k
      · rw [if_pos ⟨rfl, e⟩, e]
      · rw [if_neg (fun q => e q.2), am_I_wI, if_neg (by omega), am_I_wI, if_neg (by omega), am_I_wI, if_neg (by omega)]
        exact xW j (by omega), fun j hj => by
      rw [am_I_wI, if_neg (by omega), am_I_wI]
      by_cases e : j = k
      · rw [if_pos ⟨rfl, e⟩, e]
      · rw [if_neg (fun q => e q.2), am_I_wI, if_neg (by omega), am_I_wI, if_neg (by omega), am_I_wI, if_neg (by omega), am_I_wI, if_neg (by omega)]
        exact xP j (by omega), fun j hj => by
      rw [am_I_wI]
      by_cases e : j = k
      · rw [if_pos ⟨rfl, e⟩, e]
      · rw [if_neg (fun q => e q.2), am_I_wI, if_neg (by omega), am_I_wI, if_neg (by omega), am_I_wI, if_neg (by omega), am_I_wI, if_neg (by omega), am_I_wI, if_neg (by omega)]
        exact xO j (by omega)⟩
    have fr' := fun a h => fr a k h
    try dsimp only
    rw [s204_58]
    simp only [s204_59, s204_60, s204_63, s204_64, s204_67, s204_68, s204_69, s204_72, s204_73, s204_74, s204_75, s204_76, s204_79, s204_80, s204_81, s204_84, s204_85, s204_86, s204_87, s204_88, s204_91, s204_92, s204_93, s204_96, s204_97, s204_98, s204_99, s204_100, s204_103, s204_104, s204_105, s204_108, s204_109, s204_110, s204_111, s204_112, s204_115, s204_116, s204_117, s204_120, s204_121, s204_122, s204_123, s204_124, s204_127, s204_128, s204_129, s204_132, s204_133, s204_134, s204_135, s204_138, am_pu_s, am_pu_n, va_rf_s, va_rf_n, Option.bind_some, true_or, or_true, eq_self, if_true, if_false, ite_self, ite_true, ite_false, ↓reduceIte, reduceCtorEq, Nat.reduceEqDiff, Nat.reduceAdd, Nat.reduceLT, Nat.reduceLeDiff, Nat.reduceMul, Nat.reduceSub, not_true_eq_false, not_false_eq_true, and_self, and_true, true_and, and_false, false_and, am_I_wI, am_I_wJ, am_J_wI, am_J_wJ, am_R_wI, am_R_wJ, am_kd_wI, am_kd_wJ, am_ln_wI, am_ln_wJ, am_ix_wI, am_ix_wJ, am_F_wI, am_F_wJ, am_I_wC, am_J_wC, am_R_wC, am_kd_wC, am_ln_wC, am_ix_wC, am_F_wC, hF1, kd66, rr66_46, rr66_1, rr66_47, rr66_2, rr66_48, rr66_7, rr66_49, rr66_8, rr66_50, rr66_9, rr66_51, rr66_10, c0, ix90 hF1 (show k < 4 by omega), ix68 hF1 (show k < 4 by omega), ix91 hF1 (show k < 4 by omega), ix69 hF1 (show k < 4 by omega), ix92 hF1 (show k < 4 by omega), ix71 hF1 (show k < 4 by omega), ix93 hF1 (show k < 4 by omega), ix72 hF1 (show k < 4 by omega), ix94 hF1 (show k < 4 by omega), ix73 hF1 (show k < 4 by omega), ix95 hF1 (show k < 4 by omega), ix74 hF1 (show k < 4 by omega), fr 90 k (by omega), fr 91 k (by omega), fr 92 k (by omega), fr 93 k (by omega), fr 94 k (by omega), fr 95 k (by omega), nI_cl (show k < 2147483648 by omega), nI_add]) 4 0 0 σa (by omega) ⟨ia.1, ia.2.1, ia.2.2, fun j hj => absurd hj (by omega), fun j hj => absurd hj (by omega), fun j hj => absurd hj (by omega), fun j hj => absurd hj (by omega), fun j hj => absurd hj (by omega), fun j hj => absurd hj (by omega)⟩
  obtain ⟨σc, ec, ic⟩ := am_lps (fun k (_ : Nat) σ1 => am_w X d 204 143 [some (.ref (66 : Nat)), some (.int (nI k))] [] σ1) (fun _ q => q) 16 (fun k _ σ1 => am_F σ1 ∧ (∀ a k, (¬ a = 67 ∧ ¬ a = 68 ∧ ¬ a = 69 ∧ ¬ a = 71 ∧ ¬ a = 72 ∧ ¬ a = 73 ∧ ¬ a = 74 ∧ ¬ a = 75 ∧ ¬ a = 76 ∧ ¬ a = 77 ∧ ¬ a = 78) → am_I σ1 a k = am_I σ a k) ∧ (∀ j, j < 240 → am_I σ1 67 j = am_I σ 89 j) ∧ (∀ j, j < 4 → am_I σ1 68 j = am_I σ 90 j) ∧ (∀ j, j < 4 → am_I σ1 69 j = am_I σ 91 j) ∧ (∀ j, j < 4 → am_I σ1 71 j = am_I σ 92 j) ∧ (∀ j, j < 4 → am_I σ1 72 j = am_I σ 93 j) ∧ (∀ j, j < 4 → am_I σ1 73 j = am_I σ 94 j) ∧ (∀ j, j < 4 → am_I σ1 74 j = am_I σ 95 j) ∧ (∀ j, j < k → am_I σ1 75 j = am_I σ 96 j)) (fun k _ σ1 hk hp => by
    obtain ⟨hF1, fr, d0, d1, d2, d3, d4, d5, d6, xY⟩ := hp
    have c0 : ¬ nI 16 ≤ nI k := nI_ge hk (by decide)
    refine ⟨(am_wI σ1 75 k (am_I σ 96 k)), ?_, hF1, fun a j q => by rw [am_I_wI, if_neg (by omega)]; exact fr a j q, fun j hj => by rw [am_I_wI, if_neg (by omega)]; exact d0 j hj, fun j hj => by rw [am_I_wI, if_neg (by omega)]; exact d1 j hj, fun j hj => by rw [am_I_wI, if_neg (by omega)]; exact d2 j hj, fun j hj => by rw [am_I_wI, if_neg (by omega)]; exact d3 j hj, fun j hj => by rw [am_I_wI, if_neg (by omega)]; exact d4 j hj, fun j hj => by rw [am_I_wI, if_neg (by omega)]; exact d5 j hj, fun j hj => by rw [am_I_wI, if_neg (by omega)]; exact d6 j hj, fun j hj => by
      rw [am_I_wI]
      by_cases e : j = k
      · rw [if_pos ⟨rfl, e⟩, e]
      · rw [if_neg (fun q => e q.2)]
        exact xY j (by omega)⟩
    have fr' := fun a h => fr a k h
    try dsimp only
    rw [s204_143]
    simp only [s204_144, s204_146, s204_149, s204_150, s204_153, s204_154, s204_155, s204_158, s204_159, s204_160, s204_161, s204_164, am_pu_s, am_pu_n, va_rf_s, va_rf_n, Option.bind_some, true_or, or_true, eq_self, if_true, if_false, ite_self, ite_true, ite_false, ↓reduceIte, reduceCtorEq, Nat.reduceEqDiff, Nat.reduceAdd, Nat.reduceLT, Nat.reduceLeDiff, Nat.reduceMul, Nat.reduceSub, not_true_eq_false, not_false_eq_true, and_self, and_true, true_and, and_false, false_and, am_I_wI, am_I_wJ, am_J_wI, am_J_wJ, am_R_wI, am_R_wJ, am_kd_wI, am_kd_wJ, am_ln_wI, am_ln_wJ, am_ix_wI, am_ix_wJ, am_F_wI, am_F_wJ, am_I_wC, am_J_wC, am_R_wC, am_kd_wC, am_ln_wC, am_ix_wC, am_F_wC, hF1, kd66, rr66_52, rr66_11, c0, ix96 hF1 (show k < 16 by omega), ix75 hF1 (show k < 16 by omega), fr 96 k (by omega), nI_cl (show k < 2147483648 by omega), nI_add]) 16 0 0 σb (by omega) ⟨ib.1, ib.2.1, ib.2.2.1, ib.2.2.2.1, ib.2.2.2.2.1, ib.2.2.2.2.2.1, ib.2.2.2.2.2.2.1, ib.2.2.2.2.2.2.2.1, ib.2.2.2.2.2.2.2.2, fun j hj => absurd hj (by omega)⟩
  obtain ⟨σe, ee, ie⟩ := am_lps (fun k (_ : Nat) σ1 => am_w X d 204 169 [some (.ref (66 : Nat)), some (.int (nI k))] [] σ1) (fun _ q => q) 8 (fun k _ σ1 => am_F σ1 ∧ (∀ a k, (¬ a = 67 ∧ ¬ a = 68 ∧ ¬ a = 69 ∧ ¬ a = 71 ∧ ¬ a = 72 ∧ ¬ a = 73 ∧ ¬ a = 74 ∧ ¬ a = 75 ∧ ¬ a = 76 ∧ ¬ a = 77 ∧ ¬ a = 78) → am_I σ1 a k = am_I σ a k) ∧ (∀ j, j < 240 → am_I σ1 67 j = am_I σ 89 j) ∧ (∀ j, j < 4 → am_I σ1 68 j = am_I σ 90 j) ∧ (∀ j, j < 4 → am_I σ1 69 j = am_I σ 91 j) ∧ (∀ j, j < 4 → am_I σ1 71 j = am_I σ 92 j) ∧ (∀ j, j < 4 → am_I σ1 72 j = am_I σ 93 j) ∧ (∀ j, j < 4 → am_I σ1 73 j = am_I σ 94 j) ∧ (∀ j, j < 4 → am_I σ1 74 j = am_I σ 95 j) ∧ (∀ j, j < 16 → am_I σ1 75 j = am_I σ 96 j) ∧ (∀ j, j < k → am_I σ1 76 j = am_I σ 97 j) ∧ (∀ j, j < k → am_I σ1 77 j = am_I σ 98 j) ∧ (∀ j, j < k → am_I σ1 78 j = am_I σ 99 j)) (fun k _ σ1 hk hp => by
    obtain ⟨hF1, fr, d0, d1, d2, d3, d4, d5, d6, d7, xG, xA, xV⟩ := hp
    have c0 : ¬ nI 8 ≤ nI k := nI_ge hk (by decide)
    refine ⟨(am_wI (am_wI (am_wI σ1 76 k (am_I σ 97 k)) 77 k (am_I σ 98 k)) 78 k (am_I σ 99 k)), ?_, hF1, fun a j q => by rw [am_I_wI, if_neg (by omega), am_I_wI, if_neg (by omega), am_I_wI, if_neg (by omega)]; exact fr a j q, fun j hj => by rw [am_I_wI, if_neg (by omega), am_I_wI, if_neg (by omega), am_I_wI, if_neg (by omega)]; exact d0 j hj, fun j hj => by rw [am_I_wI, if_neg (by omega), am_I_wI, if_neg (by omega), am_I_wI, if_neg (by omega)]; exact d1 j hj, fun j hj => by rw [am_I_wI, if_neg (by omega), am_I_wI, if_neg (by omega), am_I_wI, if_neg (by omega)]; exact d2 j hj, fun j hj => by rw [am_I_wI, if_neg (by omega), am_I_wI, if_neg (by omega), am_I_wI, if_neg (by omega)]; exact d3 j hj, fun j hj => by rw [am_I_wI, if_neg (by omega), am_I_wI, if_neg (by omega), am_I_wI, if_neg (by omega)]; exact d4 j hj, fun j hj => by rw [am_I_wI, if_neg (by omega), am_I_wI, if_neg (by omega), am_I_wI, if_neg (by omega)]; exact d5 j hj, fun j hj => by rw [am_I_wI, if_neg (by omega), am_I_wI, if_neg (by omega), am_I_wI, if_neg (by omega)]; exact d6 j hj, fun j hj => by rw [am_I_wI, if_neg (by omega), am_I_wI, if_neg (by omega), am_I_wI, if_neg (by omega)]; exact d7 j hj, fun j hj => by
      rw [am_I_wI, if_neg (by omega), am_I_wI, if_neg (by omega), am_I_wI]
      by_cases e : j = k
      · rw [if_pos ⟨rfl, e⟩, e]
      · rw [if_neg (fun q => e q.2)]
        exact xG j (by omega), fun j hj => by
      rw [am_I_wI, if_neg (by omega), am_I_wI]
      by_cases e : j = k
      · rw [if_pos ⟨rfl, e⟩, e]
      · rw [if_neg (fun q => e q.2), am_I_wI, if_neg (by omega)]
        exact xA j (by omega), fun j hj => by
      rw [am_I_wI]
      by_cases e : j = k
      · rw [if_pos ⟨rfl, e⟩, e]
      · rw [if_neg (fun q => e q.2), am_I_wI, if_neg (by omega), am_I_wI, if_neg (by omega)]
        exact xV j (by omega)⟩
    have fr' := fun a h => fr a k h
    try dsimp only
    rw [s204_169]
    simp only [s204_170, s204_172, s204_175, s204_176, s204_179, s204_180, s204_181, s204_184, s204_185, s204_186, s204_187, s204_188, s204_191, s204_192, s204_193, s204_196, s204_197, s204_198, s204_199, s204_200, s204_203, s204_204, s204_205, s204_208, s204_209, s204_210, s204_211, s204_214, am_pu_s, am_pu_n, va_rf_s, va_rf_n, Option.bind_some, true_or, or_true, eq_self, if_true, if_false, ite_self, ite_true, ite_false, ↓reduceIte, reduceCtorEq, Nat.reduceEqDiff, Nat.reduceAdd, Nat.reduceLT, Nat.reduceLeDiff, Nat.reduceMul, Nat.reduceSub, not_true_eq_false, not_false_eq_true, and_self, and_true, true_and, and_false, false_and, am_I_wI, am_I_wJ, am_J_wI, am_J_wJ, am_R_wI, am_R_wJ, am_kd_wI, am_kd_wJ, am_ln_wI, am_ln_wJ, am_ix_wI, am_ix_wJ, am_F_wI, am_F_wJ, am_I_wC, am_J_wC, am_R_wC, am_kd_wC, am_ln_wC, am_ix_wC, am_F_wC, hF1, kd66, rr66_53, rr66_13, rr66_54, rr66_14, rr66_55, rr66_15, c0, ix97 hF1 (show k < 8 by omega), ix76 hF1 (show k < 8 by omega), ix98 hF1 (show k < 8 by omega), ix77 hF1 (show k < 8 by omega), ix99 hF1 (show k < 8 by omega), ix78 hF1 (show k < 8 by omega), fr 97 k (by omega), fr 98 k (by omega), fr 99 k (by omega), nI_cl (show k < 2147483648 by omega), nI_add]) 8 0 0 σc (by omega) ⟨ic.1, ic.2.1, ic.2.2.1, ic.2.2.2.1, ic.2.2.2.2.1, ic.2.2.2.2.2.1, ic.2.2.2.2.2.2.1, ic.2.2.2.2.2.2.2.1, ic.2.2.2.2.2.2.2.2.1, ic.2.2.2.2.2.2.2.2.2, fun j hj => absurd hj (by omega), fun j hj => absurd hj (by omega), fun j hj => absurd hj (by omega)⟩
  have t0 : nI 240 ≤ nI 240 := Int32.le_refl _
  have t1 : nI 4 ≤ nI 4 := Int32.le_refl _
  have t2 : nI 16 ≤ nI 16 := Int32.le_refl _
  have t3 : nI 8 ≤ nI 8 := Int32.le_refl _
  refine ⟨σe, ?_, ie⟩
  refine Eq.trans ea ?_
  try dsimp only
  rw [s204_31]
  simp only [s204_32, s204_35, s204_56, s204_57, am_pu_s, am_pu_n, va_rf_s, va_rf_n, Option.bind_some, true_or, or_true, eq_self, if_true, if_false, ite_self, ite_true, ite_false, ↓reduceIte, reduceCtorEq, Nat.reduceEqDiff, Nat.reduceAdd, Nat.reduceLT, Nat.reduceLeDiff, Nat.reduceMul, Nat.reduceSub, not_true_eq_false, not_false_eq_true, and_self, and_true, true_and, and_false, false_and, t0]
  refine Eq.trans eb ?_
  try dsimp only
  rw [s204_58]
  simp only [s204_59, s204_60, s204_141, s204_142, am_pu_s, am_pu_n, va_rf_s, va_rf_n, Option.bind_some, true_or, or_true, eq_self, if_true, if_false, ite_self, ite_true, ite_false, ↓reduceIte, reduceCtorEq, Nat.reduceEqDiff, Nat.reduceAdd, Nat.reduceLT, Nat.reduceLeDiff, Nat.reduceMul, Nat.reduceSub, not_true_eq_false, not_false_eq_true, and_self, and_true, true_and, and_false, false_and, t1]
  refine Eq.trans ec ?_
  try dsimp only
  rw [s204_143]
  simp only [s204_144, s204_146, s204_167, s204_168, am_pu_s, am_pu_n, va_rf_s, va_rf_n, Option.bind_some, true_or, or_true, eq_self, if_true, if_false, ite_self, ite_true, ite_false, ↓reduceIte, reduceCtorEq, Nat.reduceEqDiff, Nat.reduceAdd, Nat.reduceLT, Nat.reduceLeDiff, Nat.reduceMul, Nat.reduceSub, not_true_eq_false, not_false_eq_true, and_self, and_true, true_and, and_false, false_and, t2]
  refine Eq.trans ee ?_
  try dsimp only
  rw [s204_169]
  simp only [s204_170, s204_172, am_pu_s, am_pu_n, va_rf_s, va_rf_n, Option.bind_some, true_or, or_true, eq_self, if_true, if_false, ite_self, ite_true, ite_false, ↓reduceIte, reduceCtorEq, Nat.reduceEqDiff, Nat.reduceAdd, Nat.reduceLT, Nat.reduceLeDiff, Nat.reduceMul, Nat.reduceSub, not_true_eq_false, not_false_eq_true, and_self, and_true, true_and, and_false, false_and, t3]
end MU
