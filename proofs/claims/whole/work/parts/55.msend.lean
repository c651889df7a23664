/-! SEND of the model: row by row -/
def dgB (B r j : Nat) : Nat := r / B ^ (3 - j) % B
theorem dgB_n3' : ∀ B, B < 6 → ∀ r, r < B ^ 4 → (¬ dgB B r 3 + 1 = B) → r + 1 < B ^ 4 ∧ dgB B (r + 1) 3 = dgB B r 3 + 1 ∧ dgB B (r + 1) 2 = dgB B r 2 ∧ dgB B (r + 1) 1 = dgB B r 1 ∧ dgB B (r + 1) 0 = dgB B r 0 := by decide +kernel
theorem dgB_n3 (B : Nat) (hB : B < 6) (r : Nat) (hr : r < B ^ 4) (h0 : ¬ dgB B r 3 + 1 = B) : r + 1 < B ^ 4 ∧ dgB B (r + 1) 3 = dgB B r 3 + 1 ∧ dgB B (r + 1) 2 = dgB B r 2 ∧ dgB B (r + 1) 1 = dgB B r 1 ∧ dgB B (r + 1) 0 = dgB B r 0 := dgB_n3' B hB r hr h0
theorem dgB_n2' : ∀ B, B < 6 → ∀ r, r < B ^ 4 → (dgB B r 3 + 1 = B ∧ ¬ dgB B r 2 + 1 = B) → r + 1 < B ^ 4 ∧ dgB B (r + 1) 3 = 0 ∧ dgB B (r + 1) 2 = dgB B r 2 + 1 ∧ dgB B (r + 1) 1 = dgB B r 1 ∧ dgB B (r + 1) 0 = dgB B r 0 := by decide +kernel
theorem dgB_n2 (B : Nat) (hB : B < 6) (r : Nat) (hr : r < B ^ 4) (h0 : dgB B r 3 + 1 = B) (h1 : ¬ dgB B r 2 + 1 = B) : r + 1 < B ^ 4 ∧ dgB B (r + 1) 3 = 0 ∧ dgB B (r + 1) 2 = dgB B r 2 + 1 ∧ dgB B (r + 1) 1 = dgB B r 1 ∧ dgB B (r + 1) 0 = dgB B r 0 := dgB_n2' B hB r hr ⟨h0, h1⟩
theorem dgB_n1' : ∀ B, B < 6 → ∀ r, r < B ^ 4 → (dgB B r 3 + 1 = B ∧ dgB B r 2 + 1 = B ∧ ¬ dgB B r 1 + 1 = B) → r + 1 < B ^ 4 ∧ dgB B (r + 1) 3 = 0 ∧ dgB B (r + 1) 2 = 0 ∧ dgB B (r + 1) 1 = dgB B r 1 + 1 ∧ dgB B (r + 1) 0 = dgB B r 0 := by decide +kernel
theorem dgB_n1 (B : Nat) (hB : B < 6) (r : Nat) (hr : r < B ^ 4) (h0 : dgB B r 3 + 1 = B) (h1 : dgB B r 2 + 1 = B) (h2 : ¬ dgB B r 1 + 1 = B) : r + 1 < B ^ 4 ∧ dgB B (r + 1) 3 = 0 ∧ dgB B (r + 1) 2 = 0 ∧ dgB B (r + 1) 1 = dgB B r 1 + 1 ∧ dgB B (r + 1) 0 = dgB B r 0 := dgB_n1' B hB r hr ⟨h0, h1, h2⟩
theorem dgB_n0' : ∀ B, B < 6 → ∀ r, r < B ^ 4 → (dgB B r 3 + 1 = B ∧ dgB B r 2 + 1 = B ∧ dgB B r 1 + 1 = B ∧ ¬ dgB B r 0 + 1 = B) → r + 1 < B ^ 4 ∧ dgB B (r + 1) 3 = 0 ∧ dgB B (r + 1) 2 = 0 ∧ dgB B (r + 1) 1 = 0 ∧ dgB B (r + 1) 0 = dgB B r 0 + 1 := by decide +kernel
theorem dgB_n0 (B : Nat) (hB : B < 6) (r : Nat) (hr : r < B ^ 4) (h0 : dgB B r 3 + 1 = B) (h1 : dgB B r 2 + 1 = B) (h2 : dgB B r 1 + 1 = B) (h3 : ¬ dgB B r 0 + 1 = B) : r + 1 < B ^ 4 ∧ dgB B (r + 1) 3 = 0 ∧ dgB B (r + 1) 2 = 0 ∧ dgB B (r + 1) 1 = 0 ∧ dgB B (r + 1) 0 = dgB B r 0 + 1 := dgB_n0' B hB r hr ⟨h0, h1, h2, h3⟩
theorem dgB_nn' : ∀ B, B < 6 → ∀ r, r < B ^ 4 → (dgB B r 3 + 1 = B ∧ dgB B r 2 + 1 = B ∧ dgB B r 1 + 1 = B ∧ dgB B r 0 + 1 = B) → r + 1 = B ^ 4 := by decide +kernel
theorem dgB_nn (B : Nat) (hB : B < 6) (r : Nat) (hr : r < B ^ 4) (h0 : dgB B r 3 + 1 = B) (h1 : dgB B r 2 + 1 = B) (h2 : dgB B r 1 + 1 = B) (h3 : dgB B r 0 + 1 = B) : r + 1 = B ^ 4 := dgB_nn' B hB r hr ⟨h0, h1, h2, h3⟩
theorem all4 {P : Nat → Prop} (h0 : P 0) (h1 : P 1) (h2 : P 2) (h3 : P 3) : ∀ j, j < 4 → P j := by
  intro j hj
  have : j = 0 ∨ j = 1 ∨ j = 2 ∨ j = 3 := by omega
  rcases this with rfl | rfl | rfl | rfl
  · exact h0
  · exact h1
  · exact h2
  · exact h3
section MS
variable {X : am_X} {d N : Nat} {σ σ0 : am_M} {S : am_St} {a : Nat × Nat × Nat} {v : Int32}
/-- the model's plan, under way: the row is the r-th -/
def qRp (S : am_St) (σ0 σ : am_M) (r : Nat) : Prop := am_pr nsB σ0 σ ∧ am_I σ 66 5 = nI (S 4 0 0) ∧ (∀ b g, b < 4 → g < S 4 0 0 → am_I σ 88 (4 * b + g) = wM (sCh S b g)) ∧ ∀ j, j < 4 → am_I σ 86 j = nI (sD S r j)
theorem sD_lt (S : am_St) (r j : Nat) : sD S r j < sB S := Nat.mod_lt _ (sB_pos S)
theorem sPf_st {r b : Nat} (hb : b < 4) : sPf S (b + 1) (r / sB S ^ (3 - b)) = (match sPf S b (r / sB S ^ (4 - b)) with
    | none => none
    | some q => if sD S r b = 0 then some q else if q.1 / 2 ^ (sD S r b - 1) % 2 = 1 ∨ sCh S b (sD S r b - 1) = 0 then none else some (q.1 + 2 ^ (sD S r b - 1), q.2.1 + 1, q.2.2 + (sCh S b (sD S r b - 1) - 1))) := by
  rw [sPf, Nat.div_div_eq_div_mul, ← Nat.pow_succ, show (3 - b).succ = 4 - b by omega]
  rfl
theorem am_pr.j {P : Nat → Nat → Bool} {σ σ1 : am_M} (h1 : am_pr P σ σ1) : am_F σ1 := h1.1
theorem m190 (hO : sOK N S) {r : Nat} (h : qRp S σ0 σ r) : ∃ σ', am_v X (d + 2) 190 [.ref (66 : Nat)] σ = some (some (.int (bI (¬ sPf S 4 r = none))), σ') ∧ qRp S σ0 σ' r ∧ (∀ j, am_I σ' 87 j = am_I σ 87 j) ∧ ∀ q, sPf S 4 r = some q → am_I σ' 66 39 = nI q.2.1 ∧ am_I σ' 66 40 = nI q.2.2 := by
  have hG := sO_G hO
  have hBB : sB S = S 4 0 0 + 1 := rfl
  have nono : ∀ b, b < 4 → sPf S (b + 1) (r / sB S ^ (3 - b)) = none → sPf S 4 r = none := fun b hb hn => by
    have h1 := sPf_none (S := S) (3 - b) (b + 1) r hn
    rw [show b + 1 + (3 - b) = 4 by omega] at h1
    exact h1
  have loop : ∀ n b u s c σ1 l3, b + n = 4 → qRp S σ0 σ1 r → (∀ j, am_I σ1 87 j = am_I σ 87 j) → sPf S b (r / sB S ^ (4 - b)) = some (u, s, c) → am_I σ1 66 39 = nI s → am_I σ1 66 40 = nI c → ∃ σ', am_w X (d + 1) 190 14 [some (.ref (66 : Nat)), some (.int (nI u)), some (.int (nI b)), l3] [] σ1 = some (some (.int (bI (¬ sPf S 4 r = none))), σ') ∧ qRp S σ0 σ' r ∧ (∀ j, am_I σ' 87 j = am_I σ 87 j) ∧ ∀ q, sPf S 4 r = some q → am_I σ' 66 39 = nI q.2.1 ∧ am_I σ' 66 40 = nI q.2.2 := by
    intro n
    induction n with
    | zero =>
      intro b u s c σ1 l3 hb h1 h87 hq g1 g2
      have hb : b = 4 := by omega
      subst hb
      rw [Nat.sub_self, Nat.pow_zero, Nat.div_one] at hq
      refine ⟨σ1, ?_, h1, h87, fun q e => ?_⟩
      · have c1 : nI 4 ≤ nI 4 := Int32.le_refl _
        have c2 : ¬ sPf S 4 r = none := by rw [hq]; exact Option.some_ne_none _
        rw [s190_14, bI_t c2]
        simp only [s190_15, s190_16, s190_97, s190_98, am_pu_s, am_pu_n, va_rf_s, va_rf_n, Option.bind_some, true_or, or_true, eq_self, if_true, if_false, ite_self, ite_true, ite_false, ↓reduceIte, reduceCtorEq, Nat.reduceEqDiff, Nat.reduceAdd, Nat.reduceLT, Nat.reduceLeDiff, Nat.reduceMul, Nat.reduceSub, not_true_eq_false, not_false_eq_true, and_self, and_true, true_and, and_false, false_and, c1]
      · rw [hq] at e
        cases e
        exact ⟨g1, g2⟩
    | succ n ih =>
      intro b u s c σ1 l3 hb h1 h87 hq g1 g2
      have hb4 : b < 4 := by omega
      have hF1 := h1.1.1
      have c0 : ¬ nI 4 ≤ nI b := nI_ge (by omega) (by decide)
      have hst := sPf_st (S := S) (r := r) hb4
      rw [hq] at hst
      dsimp only at hst
      obtain ⟨i1, i2, i3⟩ := sPf_le hO b _ _ (by omega) hq
      dsimp only at i1 i2 i3
      have hd := sD_lt S r b
      have hrow := h1.2.2.2 b hb4
      by_cases d0 : sD S r b = 0
      · rw [if_pos d0] at hst
        obtain ⟨σ', r1, r2⟩ := ih (b + 1) u s c σ1 (some (.int (-1))) (by omega) h1 h87 (by rw [show 4 - (b + 1) = 3 - b by omega]; exact hst) g1 g2
        refine ⟨σ', ?_, r2⟩
        have k1 : nI 0 - nI 1 = -1 := by decide +kernel
        have k2 : (-1 : Int32) < nI 0 := by decide +kernel
        rw [s190_14]
        simp only [s190_15, s190_16, s190_19, s190_20, s190_23, s190_24, s190_25, s190_26, s190_27, s190_28, s190_29, s190_32, s190_33, s190_34, s190_37, s190_40, s190_41, s190_44, s190_45, s190_46, s190_47, s190_48, s190_49, s190_50, s190_51, s190_54, s190_55, s190_56, s190_57, s190_58, s190_59, s190_60, s190_61, s190_62, s190_63, s190_64, s190_67, s190_68, s190_69, s190_72, s190_73, s190_74, s190_77, s190_78, s190_81, s190_82, s190_83, s190_84, s190_85, s190_86, s190_87, s190_88, s190_91, s190_94, am_pu_s, am_pu_n, va_rf_s, va_rf_n, Option.bind_some, true_or, or_true, eq_self, if_true, if_false, ite_self, ite_true, ite_false, ↓reduceIte, reduceCtorEq, Nat.reduceEqDiff, Nat.reduceAdd, Nat.reduceLT, Nat.reduceLeDiff, Nat.reduceMul, Nat.reduceSub, not_true_eq_false, not_false_eq_true, and_self, and_true, true_and, and_false, false_and, c0, hF1, kd66, rr66_36, ix86 hF1 hb4, nI_cl (show b < 2147483648 by omega), hrow, d0, k1, k2, nI_add]
        exact r1
      · rw [if_neg d0] at hst
        have hg : sD S r b - 1 < S 4 0 0 := by omega
        have k1 : nI (sD S r b) - nI 1 = nI (sD S r b - 1) := pk_sub (by omega)
        have k2 : ¬ nI (sD S r b - 1) < nI 0 := nI_pos (by omega)
        have q2 := b_shr u i1 (sD S r b - 1) (by omega)
        have q3 : (nI (u / 2 ^ (sD S r b - 1) % 2) = nI 1) = (u / 2 ^ (sD S r b - 1) % 2 = 1) := nI_EQ (by omega) (by decide)
        have hch := h1.2.2.1 b _ hb4 hg
        have hcl := sCh_le (g := sD S r b - 1) hO hb4
        have q1 : (wM (sCh S b (sD S r b - 1)) = -1) = (sCh S b (sD S r b - 1) = 0) := wM_m1 (by omega)
        by_cases cx : u / 2 ^ (sD S r b - 1) % 2 = 1 ∨ sCh S b (sD S r b - 1) = 0
        · rw [if_pos cx] at hst
          have hn := nono b hb4 hst
          refine ⟨σ1, ?_, h1, h87, fun q e => by rw [hn] at e; cases e⟩
          have c2 : ¬ ¬ sPf S 4 r = none := fun q => q hn
          rw [s190_14, bI_f c2]
          by_cases cy : u / 2 ^ (sD S r b - 1) % 2 = 1
          · simp only [s190_15, s190_16, s190_19, s190_20, s190_23, s190_24, s190_25, s190_26, s190_27, s190_28, s190_29, s190_32, s190_33, s190_34, s190_37, s190_40, s190_41, s190_44, s190_45, s190_46, s190_47, s190_48, s190_49, s190_50, s190_51, s190_54, s190_55, s190_56, s190_57, s190_58, s190_59, s190_60, s190_61, s190_62, s190_63, s190_64, s190_67, s190_68, s190_69, s190_72, s190_73, s190_74, s190_77, s190_78, s190_81, s190_82, s190_83, s190_84, s190_85, s190_86, s190_87, s190_88, s190_91, s190_94, am_pu_s, am_pu_n, va_rf_s, va_rf_n, Option.bind_some, true_or, or_true, eq_self, if_true, if_false, ite_self, ite_true, ite_false, ↓reduceIte, reduceCtorEq, Nat.reduceEqDiff, Nat.reduceAdd, Nat.reduceLT, Nat.reduceLeDiff, Nat.reduceMul, Nat.reduceSub, not_true_eq_false, not_false_eq_true, and_self, and_true, true_and, and_false, false_and, c0, hF1, kd66, rr66_36, ix86 hF1 hb4, nI_cl (show b < 2147483648 by omega), hrow, k1, k2, m125, q2, q3, bI_t cy, cy, nI_10, bI_0]
          · have cz : sCh S b (sD S r b - 1) = 0 := by
              rcases cx with cx | cx
              · exact absurd cx cy
              · exact cx
            have cz1 : (wM (sCh S b (sD S r b - 1)) = -1) = True := by rw [q1]; exact eq_true cz
            simp only [s190_15, s190_16, s190_19, s190_20, s190_23, s190_24, s190_25, s190_26, s190_27, s190_28, s190_29, s190_32, s190_33, s190_34, s190_37, s190_40, s190_41, s190_44, s190_45, s190_46, s190_47, s190_48, s190_49, s190_50, s190_51, s190_54, s190_55, s190_56, s190_57, s190_58, s190_59, s190_60, s190_61, s190_62, s190_63, s190_64, s190_67, s190_68, s190_69, s190_72, s190_73, s190_74, s190_77, s190_78, s190_81, s190_82, s190_83, s190_84, s190_85, s190_86, s190_87, s190_88, s190_91, s190_94, am_pu_s, am_pu_n, va_rf_s, va_rf_n, Option.bind_some, true_or, or_true, eq_self, if_true, if_false, ite_self, ite_true, ite_false, ↓reduceIte, reduceCtorEq, Nat.reduceEqDiff, Nat.reduceAdd, Nat.reduceLT, Nat.reduceLeDiff, Nat.reduceMul, Nat.reduceSub, not_true_eq_false, not_false_eq_true, and_self, and_true, true_and, and_false, false_and, c0, hF1, kd66, rr66_36, rr66_38, ix86 hF1 hb4, ix88 hF1 (show 4 * b + (sD S r b - 1) < 16 by omega), nI_cl (show b < 2147483648 by omega), nI_cl (show 4 * b + (sD S r b - 1) < 2147483648 by omega), nI_2W, hrow, k1, k2, m125, q2, q3, cy, hch, cz1, bI_0, nI_10]
        · rw [if_neg cx] at hst
          have cy : ¬ u / 2 ^ (sD S r b - 1) % 2 = 1 := fun q => cx (Or.inl q)
          have cz : ¬ sCh S b (sD S r b - 1) = 0 := fun q => cx (Or.inr q)
          have hcv : wM (sCh S b (sD S r b - 1)) = nI (sCh S b (sD S r b - 1) - 1) := if_neg cz
          rw [hcv] at hch
          have q4 : (nI (sCh S b (sD S r b - 1) - 1) = -1) = False := nI_m1 (by omega)
          have hor := b_or u i1 (sD S r b - 1) (by omega) cy
          have hp2 : am_pr nsB σ0 (am_wI (am_wI σ1 66 39 (nI (s + 1))) 66 40 (nI (c + (sCh S b (sD S r b - 1) - 1)))) := (h1.1.w (by rfl)).w (by rfl)
          have h2 : qRp S σ0 (am_wI (am_wI σ1 66 39 (nI (s + 1))) 66 40 (nI (c + (sCh S b (sD S r b - 1) - 1)))) r := ⟨hp2, by rw [am_I_wI, if_neg (by omega), am_I_wI, if_neg (by omega)]; exact h1.2.1, fun b g q1 q2 => by rw [am_I_wI, if_neg (by omega), am_I_wI, if_neg (by omega)]; exact h1.2.2.1 b g q1 q2, fun j hj => by rw [am_I_wI, if_neg (by omega), am_I_wI, if_neg (by omega)]; exact h1.2.2.2 j hj⟩
          obtain ⟨σ', r1, r2⟩ := ih (b + 1) _ _ _ _ (some (.int (nI (sD S r b - 1)))) (by omega) h2 (fun j => by rw [am_I_wI, if_neg (by omega), am_I_wI, if_neg (by omega)]; exact h87 j) (by rw [show 4 - (b + 1) = 3 - b by omega]; exact hst) (by rw [am_I_wI, if_neg (by omega), am_I_wI, if_pos ⟨rfl, rfl⟩]) (by rw [am_I_wI, if_pos ⟨rfl, rfl⟩])
          refine ⟨σ', ?_, r2⟩
          rw [s190_14]
          simp only [s190_15, s190_16, s190_19, s190_20, s190_23, s190_24, s190_25, s190_26, s190_27, s190_28, s190_29, s190_32, s190_33, s190_34, s190_37, s190_40, s190_41, s190_44, s190_45, s190_46, s190_47, s190_48, s190_49, s190_50, s190_51, s190_54, s190_55, s190_56, s190_57, s190_58, s190_59, s190_60, s190_61, s190_62, s190_63, s190_64, s190_67, s190_68, s190_69, s190_72, s190_73, s190_74, s190_77, s190_78, s190_81, s190_82, s190_83, s190_84, s190_85, s190_86, s190_87, s190_88, s190_91, s190_94, am_pu_s, am_pu_n, va_rf_s, va_rf_n, Option.bind_some, true_or, or_true, eq_self, if_true, if_false, ite_self, ite_true, ite_false, ↓reduceIte, reduceCtorEq, Nat.reduceEqDiff, Nat.reduceAdd, Nat.reduceLT, Nat.reduceLeDiff, Nat.reduceMul, Nat.reduceSub, not_true_eq_false, not_false_eq_true, and_self, and_true, true_and, and_false, false_and, am_I_wI, am_I_wJ, am_J_wI, am_J_wJ, am_R_wI, am_R_wJ, am_kd_wI, am_kd_wJ, am_ln_wI, am_ln_wJ, am_ix_wI, am_ix_wJ, am_F_wI, am_F_wJ, am_I_wC, am_J_wC, am_R_wC, am_kd_wC, am_ln_wC, am_ix_wC, am_F_wC, c0, hF1, kd66, rr66_36, rr66_38, ix86 hF1 hb4, ix88 hF1 (show 4 * b + (sD S r b - 1) < 16 by omega), nI_cl (show b < 2147483648 by omega), nI_cl (show 4 * b + (sD S r b - 1) < 2147483648 by omega), nI_2W, nI_add, hrow, k1, k2, m125, q2, q3, cy, hch, q4, g1, g2, hor, bI_0]
          exact r1
  have hF := h.1.1
  have hp2 : am_pr nsB σ0 (am_wI (am_wI σ 66 39 (nI 0)) 66 40 (nI 0)) := (h.1.w (by rfl)).w (by rfl)
  have h2 : qRp S σ0 (am_wI (am_wI σ 66 39 (nI 0)) 66 40 (nI 0)) r := ⟨hp2, by rw [am_I_wI, if_neg (by omega), am_I_wI, if_neg (by omega)]; exact h.2.1, fun b g q1 q2 => by rw [am_I_wI, if_neg (by omega), am_I_wI, if_neg (by omega)]; exact h.2.2.1 b g q1 q2, fun j hj => by rw [am_I_wI, if_neg (by omega), am_I_wI, if_neg (by omega)]; exact h.2.2.2 j hj⟩
  obtain ⟨σ', r1, r2⟩ := loop 4 0 0 0 0 _ none (by omega) h2 (fun j => by rw [am_I_wI, if_neg (by omega), am_I_wI, if_neg (by omega)]) (by rfl) (by rw [am_I_wI, if_neg (by omega), am_I_wI, if_pos ⟨rfl, rfl⟩]) (by rw [am_I_wI, if_pos ⟨rfl, rfl⟩])
  refine ⟨σ', ?_, r2⟩
  rw [s190]
  simp only [s190_0, s190_1, s190_2, s190_5, s190_6, s190_7, s190_10, s190_11, s190_12, s190_13, am_pu_s, am_pu_n, va_rf_s, va_rf_n, Option.bind_some, true_or, or_true, eq_self, if_true, if_false, ite_self, ite_true, ite_false, ↓reduceIte, reduceCtorEq, Nat.reduceEqDiff, Nat.reduceAdd, Nat.reduceLT, Nat.reduceLeDiff, Nat.reduceMul, Nat.reduceSub, not_true_eq_false, not_false_eq_true, and_self, and_true, true_and, and_false, false_and, am_I_wI, am_I_wJ, am_J_wI, am_J_wJ, am_R_wI, am_R_wJ, am_kd_wI, am_kd_wJ, am_ln_wI, am_ln_wJ, am_ix_wI, am_ix_wJ, am_F_wI, am_F_wJ, am_I_wC, am_J_wC, am_R_wC, am_kd_wC, am_ln_wC, am_ix_wC, am_F_wC, hF, kd66]
  exact r1
theorem m191 (hO : sOK N S) {r : Nat} (hr : r < sB S ^ 4) (h : qRp S σ0 σ r) : ∃ σ', am_v X (d + 1) 191 [.ref (66 : Nat)] σ = some (some (.int (bI (r + 1 < sB S ^ 4))), σ') ∧ am_pr nsB σ0 σ' ∧ (∀ j, am_I σ' 87 j = am_I σ 87 j) ∧ (r + 1 < sB S ^ 4 → qRp S σ0 σ' (r + 1)) := by
  have hG := sO_G hO
  have hF := h.1.1
  have hBB : sB S = S 4 0 0 + 1 := rfl
  have n3 := dgB_n3 (sB S) (by omega) r hr
  have n2 := dgB_n2 (sB S) (by omega) r hr
  have n1 := dgB_n1 (sB S) (by omega) r hr
  have n0 := dgB_n0 (sB S) (by omega) r hr
  have nn := dgB_nn (sB S) (by omega) r hr
  have d0 := h.2.2.2 0 (by decide)
  have d1 := h.2.2.2 1 (by decide)
  have d2 := h.2.2.2 2 (by decide)
  have d3 := h.2.2.2 3 (by decide)
  have l0 := sD_lt S r 0
  have l1 := sD_lt S r 1
  have l2 := sD_lt S r 2
  have l3 := sD_lt S r 3
  have e0 : (nI (sD S r 0) = nI (S 4 0 0)) = (sD S r 0 = S 4 0 0) := nI_EQ (by omega) (by omega)
  have e1 : (nI (sD S r 1) = nI (S 4 0 0)) = (sD S r 1 = S 4 0 0) := nI_EQ (by omega) (by omega)
  have e2 : (nI (sD S r 2) = nI (S 4 0 0)) = (sD S r 2 = S 4 0 0) := nI_EQ (by omega) (by omega)
  have e3 : (nI (sD S r 3) = nI (S 4 0 0)) = (sD S r 3 = S 4 0 0) := nI_EQ (by omega) (by omega)
  have hst : ∀ σ2, am_pr nsB σ0 σ2 → (∀ o k, ¬ o = 86 → am_I σ2 o k = am_I σ o k) → ((∀ j, am_I σ2 87 j = am_I σ 87 j) ∧ am_I σ2 66 5 = nI (S 4 0 0) ∧ ∀ b g, b < 4 → g < S 4 0 0 → am_I σ2 88 (4 * b + g) = wM (sCh S b g)) := fun σ2 _ q => ⟨fun j => q _ _ (by omega), by rw [q _ _ (by omega)]; exact h.2.1, fun b g q1 q2 => by rw [q _ _ (by omega)]; exact h.2.2.1 b g q1 q2⟩
  have eG : am_I σ 66 5 = nI (S 4 0 0) := h.2.1
  rw [s191]
  have t3 : ¬ nI 3 < nI 0 := by decide +kernel
  have t2 : ¬ nI 2 < nI 0 := by decide +kernel
  have t1 : ¬ nI 1 < nI 0 := by decide +kernel
  have t0 : ¬ nI 0 < nI 0 := by decide +kernel
  have tm : ((-1 : Int32) < nI 0) = True := nI_ltm
  have u3 : nI 0 ≤ nI 3 := by decide +kernel
  have u2 : nI 0 ≤ nI 2 := by decide +kernel
  have u1 : nI 0 ≤ nI 1 := by decide +kernel
  have u0 : nI 0 ≤ nI 0 := by decide +kernel
  have p3 : nI 3 + (-1) = nI 2 := nI_pm 2
  have p2 : nI 2 + (-1) = nI 1 := nI_pm 1
  have p1 : nI 1 + (-1) = nI 0 := nI_pm 0
  have f0 := nI_cl (show 0 < 2147483648 by decide)
  have f1 := nI_cl (show 1 < 2147483648 by decide)
  have f2 := nI_cl (show 2 < 2147483648 by decide)
  have f3 := nI_cl (show 3 < 2147483648 by decide)
  have x0 := ix86 hF (show 0 < 4 by decide)
  have x1 := ix86 hF (show 1 < 4 by decide)
  have x2 := ix86 hF (show 2 < 4 by decide)
  have x3 := ix86 hF (show 3 < 4 by decide)
  by_cases c3 : sD S r 3 = S 4 0 0
  · by_cases c2 : sD S r 2 = S 4 0 0
    · by_cases c1 : sD S r 1 = S 4 0 0
      · by_cases c0 : sD S r 0 = S 4 0 0
        · have hn := nn (show sD S r 3 + 1 = sB S by omega) (show sD S r 2 + 1 = sB S by omega) (show sD S r 1 + 1 = sB S by omega) (show sD S r 0 + 1 = sB S by omega)
          have hn' : ¬ r + 1 < sB S ^ 4 := by omega
          refine ⟨am_wI (am_wI (am_wI (am_wI σ 86 3 (nI 0)) 86 2 (nI 0)) 86 1 (nI 0)) 86 0 (nI 0), ?_, (((h.1.w (by rfl)).w (by rfl)).w (by rfl)).w (by rfl), fun j => by rw [am_I_wI, if_neg (by omega), am_I_wI, if_neg (by omega), am_I_wI, if_neg (by omega), am_I_wI, if_neg (by omega)], fun q => absurd q hn'⟩
          rw [bI_f hn']
          simp only [s191_0, s191_1, s191_2, s191_3, s191_6, s191_7, s191_10, s191_11, s191_12, s191_13, s191_16, s191_19, s191_20, s191_23, s191_24, s191_25, s191_26, s191_29, s191_32, s191_33, s191_36, s191_37, s191_38, s191_39, s191_42, s191_43, s191_44, s191_45, s191_46, s191_47, s191_48, s191_49, am_pu_s, am_pu_n, va_rf_s, va_rf_n, Option.bind_some, true_or, or_true, eq_self, if_true, if_false, ite_self, ite_true, ite_false, ↓reduceIte, reduceCtorEq, Nat.reduceEqDiff, Nat.reduceAdd, Nat.reduceLT, Nat.reduceLeDiff, Nat.reduceMul, Nat.reduceSub, not_true_eq_false, not_false_eq_true, and_self, and_true, true_and, and_false, false_and, am_I_wI, am_I_wJ, am_J_wI, am_J_wJ, am_R_wI, am_R_wJ, am_kd_wI, am_kd_wJ, am_ln_wI, am_ln_wJ, am_ix_wI, am_ix_wJ, am_F_wI, am_F_wJ, am_I_wC, am_J_wC, am_R_wC, am_kd_wC, am_ln_wC, am_ix_wC, am_F_wC, hF, kd66, rr66_36, t3, t2, t1, t0, tm, nI_nlm, p3, p2, p1, nI_0m, f0, f1, f2, f3, x0, x1, x2, x3, d0, d1, d2, d3, eG, e0, e1, e2, e3, c0, c1, c2, c3]
        · obtain ⟨hn, m3, m2, m1, m0⟩ := n0 (show sD S r 3 + 1 = sB S by omega) (show sD S r 2 + 1 = sB S by omega) (show sD S r 1 + 1 = sB S by omega) (show ¬ sD S r 0 + 1 = sB S by omega)
          have hp : am_pr nsB σ0 (am_wI (am_wI (am_wI (am_wI σ 86 3 (nI 0)) 86 2 (nI 0)) 86 1 (nI 0)) 86 0 (nI (sD S r 0 + 1))) := (((h.1.w (by rfl)).w (by rfl)).w (by rfl)).w (by rfl)
          obtain ⟨s1, s2, s3⟩ := hst _ hp (fun o k q => by rw [am_I_wI, if_neg (fun e => q e.1), am_I_wI, if_neg (fun e => q e.1), am_I_wI, if_neg (fun e => q e.1), am_I_wI, if_neg (fun e => q e.1)])
          refine ⟨_, ?_, hp, s1, fun _ => ⟨hp, s2, s3, all4 ?_ ?_ ?_ ?_⟩⟩
          · rw [bI_t hn]
            simp only [s191_0, s191_1, s191_2, s191_3, s191_6, s191_7, s191_10, s191_11, s191_12, s191_13, s191_16, s191_19, s191_20, s191_23, s191_24, s191_25, s191_26, s191_29, s191_32, s191_33, s191_36, s191_37, s191_38, s191_39, s191_42, s191_43, s191_44, s191_45, s191_46, s191_47, s191_48, s191_49, am_pu_s, am_pu_n, va_rf_s, va_rf_n, Option.bind_some, true_or, or_true, eq_self, if_true, if_false, ite_self, ite_true, ite_false, ↓reduceIte, reduceCtorEq, Nat.reduceEqDiff, Nat.reduceAdd, Nat.reduceLT, Nat.reduceLeDiff, Nat.reduceMul, Nat.reduceSub, not_true_eq_false, not_false_eq_true, and_self, and_true, true_and, and_false, false_and, am_I_wI, am_I_wJ, am_J_wI, am_J_wJ, am_R_wI, am_R_wJ, am_kd_wI, am_kd_wJ, am_ln_wI, am_ln_wJ, am_ix_wI, am_ix_wJ, am_F_wI, am_F_wJ, am_I_wC, am_J_wC, am_R_wC, am_kd_wC, am_ln_wC, am_ix_wC, am_F_wC, hF, kd66, rr66_36, t3, t2, t1, t0, tm, u0, nI_nlm, p3, p2, p1, nI_0m, f0, f1, f2, f3, x0, x1, x2, x3, d0, d1, d2, d3, eG, e0, e1, e2, e3, c0, c1, c2, c3, nI_add]
          · rw [am_I_wI, if_pos ⟨rfl, rfl⟩]; exact congrArg nI m0.symm
          · rw [am_I_wI, if_neg (by omega), am_I_wI, if_pos ⟨rfl, rfl⟩]; exact congrArg nI m1.symm
          · rw [am_I_wI, if_neg (by omega), am_I_wI, if_neg (by omega), am_I_wI, if_pos ⟨rfl, rfl⟩]; exact congrArg nI m2.symm
          · rw [am_I_wI, if_neg (by omega), am_I_wI, if_neg (by omega), am_I_wI, if_neg (by omega), am_I_wI, if_pos ⟨rfl, rfl⟩]; exact congrArg nI m3.symm
      · obtain ⟨hn, m3, m2, m1, m0⟩ := n1 (show sD S r 3 + 1 = sB S by omega) (show sD S r 2 + 1 = sB S by omega) (show ¬ sD S r 1 + 1 = sB S by omega)
        have hp : am_pr nsB σ0 (am_wI (am_wI (am_wI σ 86 3 (nI 0)) 86 2 (nI 0)) 86 1 (nI (sD S r 1 + 1))) := ((h.1.w (by rfl)).w (by rfl)).w (by rfl)
        obtain ⟨s1, s2, s3⟩ := hst _ hp (fun o k q => by rw [am_I_wI, if_neg (fun e => q e.1), am_I_wI, if_neg (fun e => q e.1), am_I_wI, if_neg (fun e => q e.1)])
        refine ⟨_, ?_, hp, s1, fun _ => ⟨hp, s2, s3, all4 ?_ ?_ ?_ ?_⟩⟩
        · rw [bI_t hn]
          simp only [s191_0, s191_1, s191_2, s191_3, s191_6, s191_7, s191_10, s191_11, s191_12, s191_13, s191_16, s191_19, s191_20, s191_23, s191_24, s191_25, s191_26, s191_29, s191_32, s191_33, s191_36, s191_37, s191_38, s191_39, s191_42, s191_43, s191_44, s191_45, s191_46, s191_47, s191_48, s191_49, am_pu_s, am_pu_n, va_rf_s, va_rf_n, Option.bind_some, true_or, or_true, eq_self, if_true, if_false, ite_self, ite_true, ite_false, ↓reduceIte, reduceCtorEq, Nat.reduceEqDiff, Nat.reduceAdd, Nat.reduceLT, Nat.reduceLeDiff, Nat.reduceMul, Nat.reduceSub, not_true_eq_false, not_false_eq_true, and_self, and_true, true_and, and_false, false_and, am_I_wI, am_I_wJ, am_J_wI, am_J_wJ, am_R_wI, am_R_wJ, am_kd_wI, am_kd_wJ, am_ln_wI, am_ln_wJ, am_ix_wI, am_ix_wJ, am_F_wI, am_F_wJ, am_I_wC, am_J_wC, am_R_wC, am_kd_wC, am_ln_wC, am_ix_wC, am_F_wC, hF, kd66, rr66_36, t3, t2, t1, t0, tm, u1, nI_nlm, p3, p2, p1, nI_0m, f0, f1, f2, f3, x0, x1, x2, x3, d0, d1, d2, d3, eG, e0, e1, e2, e3, c1, c2, c3, nI_add]
        · rw [am_I_wI, if_neg (by omega), am_I_wI, if_neg (by omega), am_I_wI, if_neg (by omega), d0]; exact congrArg nI m0.symm
        · rw [am_I_wI, if_pos ⟨rfl, rfl⟩]; exact congrArg nI m1.symm
        · rw [am_I_wI, if_neg (by omega), am_I_wI, if_pos ⟨rfl, rfl⟩]; exact congrArg nI m2.symm
        · rw [am_I_wI, if_neg (by omega), am_I_wI, if_neg (by omega), am_I_wI, if_pos ⟨rfl, rfl⟩]; exact congrArg nI m3.symm
    · obtain ⟨hn, m3, m2, m1, m0⟩ := n2 (show sD S r 3 + 1 = sB S by omega) (show ¬ sD S r 2 + 1 = sB S by omega)
      have hp : am_pr nsB σ0 (am_wI (am_wI σ 86 3 (nI 0)) 86 2 (nI (sD S r 2 + 1))) := (h.1.w (by rfl)).w (by rfl)
      obtain ⟨s1, s2, s3⟩ := hst _ hp (fun o k q => by rw [am_I_wI, if_neg (fun e => q e.1), am_I_wI, if_neg (fun e => q e.1)])
      refine ⟨_, ?_, hp, s1, fun _ => ⟨hp, s2, s3, all4 ?_ ?_ ?_ ?_⟩⟩
      · rw [bI_t hn]
        simp only [s191_0, s191_1, s191_2, s191_3, s191_6, s191_7, s191_10, s191_11, s191_12, s191_13, s191_16, s191_19, s191_20, s191_23, s191_24, s191_25, s191_26, s191_29, s191_32, s191_33, s191_36, s191_37, s191_38, s191_39, s191_42, s191_43, s191_44, s191_45, s191_46, s191_47, s191_48, s191_49, am_pu_s, am_pu_n, va_rf_s, va_rf_n, Option.bind_some, true_or, or_true, eq_self, if_true, if_false, ite_self, ite_true, ite_false, ↓reduceIte, reduceCtorEq, Nat.reduceEqDiff, Nat.reduceAdd, Nat.reduceLT, Nat.reduceLeDiff, Nat.reduceMul, Nat.reduceSub, not_true_eq_false, not_false_eq_true, and_self, and_true, true_and, and_false, false_and, am_I_wI, am_I_wJ, am_J_wI, am_J_wJ, am_R_wI, am_R_wJ, am_kd_wI, am_kd_wJ, am_ln_wI, am_ln_wJ, am_ix_wI, am_ix_wJ, am_F_wI, am_F_wJ, am_I_wC, am_J_wC, am_R_wC, am_kd_wC, am_ln_wC, am_ix_wC, am_F_wC, hF, kd66, rr66_36, t3, t2, t1, t0, tm, u2, nI_nlm, p3, p2, p1, nI_0m, f0, f1, f2, f3, x0, x1, x2, x3, d0, d1, d2, d3, eG, e0, e1, e2, e3, c2, c3, nI_add]
      · rw [am_I_wI, if_neg (by omega), am_I_wI, if_neg (by omega), d0]; exact congrArg nI m0.symm
      · rw [am_I_wI, if_neg (by omega), am_I_wI, if_neg (by omega), d1]; exact congrArg nI m1.symm
      · rw [am_I_wI, if_pos ⟨rfl, rfl⟩]; exact congrArg nI m2.symm
      · rw [am_I_wI, if_neg (by omega), am_I_wI, if_pos ⟨rfl, rfl⟩]; exact congrArg nI m3.symm
  · obtain ⟨hn, m3, m2, m1, m0⟩ := n3 (show ¬ sD S r 3 + 1 = sB S by omega)
    have hp : am_pr nsB σ0 (am_wI σ 86 3 (nI (sD S r 3 + 1))) := h.1.w (by rfl)
    obtain ⟨s1, s2, s3⟩ := hst _ hp (fun o k q => by rw [am_I_wI, if_neg (fun e => q e.1)])
    refine ⟨_, ?_, hp, s1, fun _ => ⟨hp, s2, s3, all4 ?_ ?_ ?_ ?_⟩⟩
    · rw [bI_t hn]
      simp only [s191_0, s191_1, s191_2, s191_3, s191_6, s191_7, s191_10, s191_11, s191_12, s191_13, s191_16, s191_19, s191_20, s191_23, s191_24, s191_25, s191_26, s191_29, s191_32, s191_33, s191_36, s191_37, s191_38, s191_39, s191_42, s191_43, s191_44, s191_45, s191_46, s191_47, s191_48, s191_49, am_pu_s, am_pu_n, va_rf_s, va_rf_n, Option.bind_some, true_or, or_true, eq_self, if_true, if_false, ite_self, ite_true, ite_false, ↓reduceIte, reduceCtorEq, Nat.reduceEqDiff, Nat.reduceAdd, Nat.reduceLT, Nat.reduceLeDiff, Nat.reduceMul, Nat.reduceSub, not_true_eq_false, not_false_eq_true, and_self, and_true, true_and, and_false, false_and, am_I_wI, am_I_wJ, am_J_wI, am_J_wJ, am_R_wI, am_R_wJ, am_kd_wI, am_kd_wJ, am_ln_wI, am_ln_wJ, am_ix_wI, am_ix_wJ, am_F_wI, am_F_wJ, am_I_wC, am_J_wC, am_R_wC, am_kd_wC, am_ln_wC, am_ix_wC, am_F_wC, hF, kd66, rr66_36, t3, t2, t1, t0, tm, u3, nI_nlm, p3, p2, p1, nI_0m, f0, f1, f2, f3, x0, x1, x2, x3, d0, d1, d2, d3, eG, e0, e1, e2, e3, c3, nI_add]
    · rw [am_I_wI, if_neg (by omega), d0]; exact congrArg nI m0.symm
    · rw [am_I_wI, if_neg (by omega), d1]; exact congrArg nI m1.symm
    · rw [am_I_wI, if_neg (by omega), d2]; exact congrArg nI m2.symm
    · rw [am_I_wI, if_pos ⟨rfl, rfl⟩]; exact congrArg nI m3.symm
def qBe (S : am_St) (σ : am_M) (a : Nat × Nat × Nat) : Prop := (0 < a.1 → ∀ j, j < 4 → am_I σ 87 j = nI (sD S a.2.2 j)) ∧ a.1 ≤ 5 ∧ a.2.1 ≤ 268435456
theorem m192s (hO : sOK N S) {r : Nat} {w : Int32} {l5 : Option Value} (hr : r < sB S ^ 4) (h : qRp S σ0 σ r) (hB : qBe S σ a) : ∃ σ' l5', am_w X (d + 7) 192 33 [some (.ref (66 : Nat)), some (.int w), some (.int (wM a.1)), some (.int (nI a.2.1)), some (.int (nI 1)), l5] [] σ = am_w X (d + 7) 192 108 [some (.ref (66 : Nat)), some (.int w), some (.int (wM (sEv S r a).1)), some (.int (nI (sEv S r a).2.1)), some (.int (nI 1)), l5'] [] σ' ∧ qRp S σ0 σ' r ∧ qBe S σ' (sEv S r a) := by
  obtain ⟨σ1, e1, h1, k1, j1⟩ := m190 (X := X) (d := d + 5) hO h
  have hF := h.1.1
  have hF1 := h1.1.1
  obtain ⟨b1, b2, b3⟩ := hB
  have b1' : 0 < a.1 → ∀ j, j < 4 → am_I σ1 87 j = nI (sD S a.2.2 j) := fun q j hj => by rw [k1]; exact b1 q j hj
  rw [s192_33]
  unfold sEv
  cases hq : sPf S 4 r with
  | none =>
    rw [hq, bI_f (fun q => q rfl)] at e1
    refine ⟨σ1, l5, ?_, h1, ⟨b1', b2, b3⟩⟩
    dsimp only
    simp only [s192_35, s192_38, s192_39, s192_42, am_pu_s, am_pu_n, va_rf_s, va_rf_n, Option.bind_some, true_or, or_true, eq_self, if_true, if_false, ite_self, ite_true, ite_false, ↓reduceIte, reduceCtorEq, Nat.reduceEqDiff, Nat.reduceAdd, Nat.reduceLT, Nat.reduceLeDiff, Nat.reduceMul, Nat.reduceSub, not_true_eq_false, not_false_eq_true, and_self, and_true, true_and, and_false, false_and, nI_10, hF, kd66, e1]
  | some q =>
    obtain ⟨g1, g2⟩ := j1 q hq
    rw [hq, bI_t (Option.some_ne_none q)] at e1
    obtain ⟨u, s, c⟩ := q
    obtain ⟨i1, i2, i3⟩ := sPf_le hO 4 _ _ (by decide) hq
    dsimp only at g1 g2 i1 i2 i3
    dsimp only
    have q1 : (wM a.1 < nI s) = (a.1 < s + 1) := wM_lt (by omega) (by omega)
    have q2 : (nI s = wM a.1) = (a.1 = s + 1) := wM_eq (by omega) (by omega)
    have q3 : (nI a.2.1 ≤ nI c) = (a.2.1 ≤ c) := nI_LE (by omega) (by omega)
    unfold sBt
    by_cases c1 : a.1 < s + 1 ∨ (a.1 = s + 1 ∧ c < a.2.1)
    · rw [if_pos c1]
      dsimp only
      have hp : am_pr nsB σ0 (am_wI (am_wI (am_wI (am_wI σ1 87 0 (nI (sD S r 0))) 87 1 (nI (sD S r 1))) 87 2 (nI (sD S r 2))) 87 3 (nI (sD S r 3))) := (((h1.1.w (by rfl)).w (by rfl)).w (by rfl)).w (by rfl)
      have oth : ∀ o k, ¬ o = 87 → am_I (am_wI (am_wI (am_wI (am_wI σ1 87 0 (nI (sD S r 0))) 87 1 (nI (sD S r 1))) 87 2 (nI (sD S r 2))) 87 3 (nI (sD S r 3))) o k = am_I σ1 o k := fun o k q => by rw [am_I_wI, if_neg (fun e => q e.1), am_I_wI, if_neg (fun e => q e.1), am_I_wI, if_neg (fun e => q e.1), am_I_wI, if_neg (fun e => q e.1)]
      refine ⟨_, some (.int (nI 4)), ?_, ⟨hp, by rw [oth _ _ (by omega)]; exact h1.2.1, fun b g q1 q2 => by rw [oth _ _ (by omega)]; exact h1.2.2.1 b g q1 q2, fun j hj => by rw [oth _ _ (by omega)]; exact h1.2.2.2 j hj⟩, ⟨fun _ => all4 ?_ ?_ ?_ ?_, ?_, ?_⟩⟩
      · have x0 := ix86 hF1 (show 0 < 4 by decide)
        have x1 := ix86 hF1 (show 1 < 4 by decide)
        have x2 := ix86 hF1 (show 2 < 4 by decide)
        have x3 := ix86 hF1 (show 3 < 4 by decide)
        have y0 := ix87 hF1 (show 0 < 4 by decide)
        have y1 := ix87 hF1 (show 1 < 4 by decide)
        have y2 := ix87 hF1 (show 2 < 4 by decide)
        have y3 := ix87 hF1 (show 3 < 4 by decide)
        have f0 := nI_cl (show 0 < 2147483648 by decide)
        have f1 := nI_cl (show 1 < 2147483648 by decide)
        have f2 := nI_cl (show 2 < 2147483648 by decide)
        have f3 := nI_cl (show 3 < 2147483648 by decide)
        have d0 := h1.2.2.2 0 (by decide)
        have d1 := h1.2.2.2 1 (by decide)
        have d2 := h1.2.2.2 2 (by decide)
        have d3 := h1.2.2.2 3 (by decide)
        have t0 : ¬ nI 4 ≤ nI 0 := by decide +kernel
        have t1 : ¬ nI 4 ≤ nI 1 := by decide +kernel
        have t2 : ¬ nI 4 ≤ nI 2 := by decide +kernel
        have t3 : ¬ nI 4 ≤ nI 3 := by decide +kernel
        have t4 : nI 4 ≤ nI 4 := by decide +kernel
        rcases c1 with c1 | ⟨c1, c2⟩
        · simp only [s192_35, s192_38, s192_39, s192_42, s192_45, s192_46, s192_49, s192_50, s192_53, s192_54, s192_57, s192_58, s192_61, s192_62, s192_65, s192_66, s192_69, s192_70, s192_73, s192_74, s192_75, s192_78, s192_79, s192_80, s192_82, s192_84, s192_85, s192_88, s192_89, s192_92, s192_94, s192_95, s192_98, s192_100, s192_101, s192_102, s192_105, am_pu_s, am_pu_n, va_rf_s, va_rf_n, Option.bind_some, true_or, or_true, eq_self, if_true, if_false, ite_self, ite_true, ite_false, ↓reduceIte, reduceCtorEq, Nat.reduceEqDiff, Nat.reduceAdd, Nat.reduceLT, Nat.reduceLeDiff, Nat.reduceMul, Nat.reduceSub, not_true_eq_false, not_false_eq_true, and_self, and_true, true_and, and_false, false_and, am_I_wI, am_I_wJ, am_J_wI, am_J_wJ, am_R_wI, am_R_wJ, am_kd_wI, am_kd_wJ, am_ln_wI, am_ln_wJ, am_ix_wI, am_ix_wJ, am_F_wI, am_F_wJ, am_I_wC, am_J_wC, am_R_wC, am_kd_wC, am_ln_wC, am_ix_wC, am_F_wC, nI_10, hF, hF1, kd66, e1, g1, g2, q1, c1, rr66_36, rr66_37, x0, x1, x2, x3, y0, y1, y2, y3, f0, f1, f2, f3, d0, d1, d2, d3, t0, t1, t2, t3, t4, nI_add, wM_s]
        · have c3 : ¬ a.1 < s + 1 := by omega
          have c4 : ¬ a.2.1 ≤ c := by omega
          have c5 : ¬ wM a.1 < nI s := by rw [q1]; exact c3
          have c6 : (nI s = wM a.1) = True := by rw [q2]; exact eq_true c1
          simp only [s192_35, s192_38, s192_39, s192_42, s192_45, s192_46, s192_49, s192_50, s192_53, s192_54, s192_57, s192_58, s192_61, s192_62, s192_65, s192_66, s192_69, s192_70, s192_73, s192_74, s192_75, s192_78, s192_79, s192_80, s192_82, s192_84, s192_85, s192_88, s192_89, s192_92, s192_94, s192_95, s192_98, s192_100, s192_101, s192_102, s192_105, am_pu_s, am_pu_n, va_rf_s, va_rf_n, Option.bind_some, true_or, or_true, eq_self, if_true, if_false, ite_self, ite_true, ite_false, ↓reduceIte, reduceCtorEq, Nat.reduceEqDiff, Nat.reduceAdd, Nat.reduceLT, Nat.reduceLeDiff, Nat.reduceMul, Nat.reduceSub, not_true_eq_false, not_false_eq_true, and_self, and_true, true_and, and_false, false_and, am_I_wI, am_I_wJ, am_J_wI, am_J_wJ, am_R_wI, am_R_wJ, am_kd_wI, am_kd_wJ, am_ln_wI, am_ln_wJ, am_ix_wI, am_ix_wJ, am_F_wI, am_F_wJ, am_I_wC, am_J_wC, am_R_wC, am_kd_wC, am_ln_wC, am_ix_wC, am_F_wC, nI_10, hF, hF1, kd66, e1, g1, g2, c5, c6, q3, c4, rr66_36, rr66_37, x0, x1, x2, x3, y0, y1, y2, y3, f0, f1, f2, f3, d0, d1, d2, d3, t0, t1, t2, t3, t4, nI_add, wM_s]
      · rw [am_I_wI, if_neg (by omega), am_I_wI, if_neg (by omega), am_I_wI, if_neg (by omega), am_I_wI, if_pos ⟨rfl, rfl⟩]
      · rw [am_I_wI, if_neg (by omega), am_I_wI, if_neg (by omega), am_I_wI, if_pos ⟨rfl, rfl⟩]
      · rw [am_I_wI, if_neg (by omega), am_I_wI, if_pos ⟨rfl, rfl⟩]
      · rw [am_I_wI, if_pos ⟨rfl, rfl⟩]
      · show s + 1 ≤ 5
        omega
      · show c ≤ _
        omega
    · rw [if_neg c1]
      refine ⟨σ1, l5, ?_, h1, ⟨b1', b2, b3⟩⟩
      have c2 : ¬ a.1 < s + 1 := fun q => c1 (Or.inl q)
      by_cases c3 : a.1 = s + 1
      · have c4 : a.2.1 ≤ c := Nat.le_of_not_lt fun q => c1 (Or.inr ⟨c3, q⟩)
        have c5 : ¬ wM a.1 < nI s := by rw [q1]; exact c2
        have c6 : (nI s = wM a.1) = True := by rw [q2]; exact eq_true c3
        simp only [s192_35, s192_38, s192_39, s192_42, s192_45, s192_46, s192_49, s192_50, s192_53, s192_54, s192_57, s192_58, s192_61, s192_62, s192_65, s192_66, am_pu_s, am_pu_n, va_rf_s, va_rf_n, Option.bind_some, true_or, or_true, eq_self, if_true, if_false, ite_self, ite_true, ite_false, ↓reduceIte, reduceCtorEq, Nat.reduceEqDiff, Nat.reduceAdd, Nat.reduceLT, Nat.reduceLeDiff, Nat.reduceMul, Nat.reduceSub, not_true_eq_false, not_false_eq_true, and_self, and_true, true_and, and_false, false_and, am_I_wI, am_I_wJ, am_J_wI, am_J_wJ, am_R_wI, am_R_wJ, am_kd_wI, am_kd_wJ, am_ln_wI, am_ln_wJ, am_ix_wI, am_ix_wJ, am_F_wI, am_F_wJ, am_I_wC, am_J_wC, am_R_wC, am_kd_wC, am_ln_wC, am_ix_wC, am_F_wC, nI_10, hF, hF1, kd66, e1, g1, g2, c5, c6, q3, c4]
      · simp only [s192_35, s192_38, s192_39, s192_42, s192_45, s192_46, s192_49, s192_50, s192_53, s192_54, s192_57, s192_58, s192_61, s192_62, s192_65, s192_66, am_pu_s, am_pu_n, va_rf_s, va_rf_n, Option.bind_some, true_or, or_true, eq_self, if_true, if_false, ite_self, ite_true, ite_false, ↓reduceIte, reduceCtorEq, Nat.reduceEqDiff, Nat.reduceAdd, Nat.reduceLT, Nat.reduceLeDiff, Nat.reduceMul, Nat.reduceSub, not_true_eq_false, not_false_eq_true, and_self, and_true, true_and, and_false, false_and, am_I_wI, am_I_wJ, am_J_wI, am_J_wJ, am_R_wI, am_R_wJ, am_kd_wI, am_kd_wJ, am_ln_wI, am_ln_wJ, am_ix_wI, am_ix_wJ, am_F_wI, am_F_wJ, am_I_wC, am_J_wC, am_R_wC, am_kd_wC, am_ln_wC, am_ix_wC, am_F_wC, nI_10, hF, hF1, kd66, e1, g1, g2, q1, q2, c2, c3]
theorem m192l (hO : sOK N S) {w : Int32} : ∀ n r a σ l5, r + (n + 1) = sB S ^ 4 → qRp S σ0 σ r → qBe S σ a → ∃ σ' l5', am_w X (d + 7) 192 33 [some (.ref (66 : Nat)), some (.int w), some (.int (wM a.1)), some (.int (nI a.2.1)), some (.int (nI 1)), l5] [] σ = am_w X (d + 7) 192 117 [some (.ref (66 : Nat)), some (.int w), some (.int (wM (am_fd (sEv S) r (n + 1) a).1)), some (.int (nI (am_fd (sEv S) r (n + 1) a).2.1)), some (.int (nI 0)), l5'] [] σ' ∧ am_pr nsB σ0 σ' ∧ qBe S σ' (am_fd (sEv S) r (n + 1) a) := by
  intro n
  induction n with
  | zero =>
    intro r a σ l5 hr h hB
    obtain ⟨σ1, l51, e1, h1, B1⟩ := m192s (X := X) (d := d) (w := w) (l5 := l5) hO (show r < sB S ^ 4 by omega) h hB
    obtain ⟨σ2, e2, h2, k2, _⟩ := m191 (X := X) (d := d + 6) hO (show r < sB S ^ 4 by omega) h1
    rw [bI_f (show ¬ r + 1 < sB S ^ 4 by omega)] at e2
    refine ⟨σ2, l51, ?_, h2, ⟨fun q j hj => by rw [k2]; exact B1.1 q j hj, B1.2⟩⟩
    rw [e1]
    show _ = am_w X (d + 7) 192 117 [some (.ref (66 : Nat)), some (.int w), some (.int (wM (sEv S r a).1)), some (.int (nI (sEv S r a).2.1)), some (.int (nI 0)), l51] [] σ2
    simp only [s192_108, s192_109, s192_112, s192_114, s192_33, s192_35, am_pu_s, am_pu_n, va_rf_s, va_rf_n, Option.bind_some, true_or, or_true, eq_self, if_true, if_false, ite_self, ite_true, ite_false, ↓reduceIte, reduceCtorEq, Nat.reduceEqDiff, Nat.reduceAdd, Nat.reduceLT, Nat.reduceLeDiff, Nat.reduceMul, Nat.reduceSub, not_true_eq_false, not_false_eq_true, and_self, and_true, true_and, and_false, false_and, h1.1.1, kd66, e2]
  | succ n ih =>
    intro r a σ l5 hr h hB
    obtain ⟨σ1, l51, e1, h1, B1⟩ := m192s (X := X) (d := d) (w := w) (l5 := l5) hO (show r < sB S ^ 4 by omega) h hB
    obtain ⟨σ2, e2, h2, k2, g2⟩ := m191 (X := X) (d := d + 6) hO (show r < sB S ^ 4 by omega) h1
    have hlt : r + 1 < sB S ^ 4 := by omega
    rw [bI_t hlt] at e2
    obtain ⟨σ3, l53, e3, r3⟩ := ih (r + 1) (sEv S r a) σ2 l51 (by omega) (g2 hlt) ⟨fun q j hj => by rw [k2]; exact B1.1 q j hj, B1.2⟩
    refine ⟨σ3, l53, ?_, r3⟩
    rw [e1]
    simp only [s192_108, s192_109, s192_112, s192_114, am_pu_s, am_pu_n, va_rf_s, va_rf_n, Option.bind_some, true_or, or_true, eq_self, if_true, if_false, ite_self, ite_true, ite_false, ↓reduceIte, reduceCtorEq, Nat.reduceEqDiff, Nat.reduceAdd, Nat.reduceLT, Nat.reduceLeDiff, Nat.reduceMul, Nat.reduceSub, not_true_eq_false, not_false_eq_true, and_self, and_true, true_and, and_false, false_and, h1.1.1, kd66, e2]
    exact e3
theorem m192 (h : mRep S σ) (hO : sOK N S) {k : Nat} (hk : k = 0 ∨ k = 1 ∨ (10 ≤ k ∧ k < 14)) : ∃ σ', am_v X (d + 8) 192 [.ref (66 : Nat), .int (nI k)] σ = some (some (.int (rSn S k)), σ') ∧ am_pr nsB σ σ' := by
  have hF := h.1
  obtain ⟨σ1, e1, hp1, ch⟩ := m189 (X := X) (d := d) h hO
  have hF1 := hp1.1
  have hm1 := h.piB hp1.i
  have hp2 : am_pr nsB σ (am_wI (am_wI (am_wI (am_wI σ1 86 0 (nI 0)) 86 1 (nI 0)) 86 2 (nI 0)) 86 3 (nI 0)) := (((hp1.w (by rfl)).w (by rfl)).w (by rfl)).w (by rfl)
  have z : ∀ j, nI 0 = nI (sD S 0 j) := fun j => by unfold sD; rw [Nat.zero_div, Nat.zero_mod]
  have q2 : qRp S σ (am_wI (am_wI (am_wI (am_wI σ1 86 0 (nI 0)) 86 1 (nI 0)) 86 2 (nI 0)) 86 3 (nI 0)) 0 := by
    refine ⟨hp2, ?_, fun b g q1 q2 => ?_, all4 ?_ ?_ ?_ ?_⟩
    · rw [am_I_wI, if_neg (by omega), am_I_wI, if_neg (by omega), am_I_wI, if_neg (by omega), am_I_wI, if_neg (by omega)]
      exact mR_G hm1
    · rw [am_I_wI, if_neg (by omega), am_I_wI, if_neg (by omega), am_I_wI, if_neg (by omega), am_I_wI, if_neg (by omega)]
      exact ch b g q1 q2
    · rw [am_I_wI, if_neg (by omega), am_I_wI, if_neg (by omega), am_I_wI, if_neg (by omega), am_I_wI, if_pos ⟨rfl, rfl⟩]; exact z _
    · rw [am_I_wI, if_neg (by omega), am_I_wI, if_neg (by omega), am_I_wI, if_pos ⟨rfl, rfl⟩]; exact z _
    · rw [am_I_wI, if_neg (by omega), am_I_wI, if_pos ⟨rfl, rfl⟩]; exact z _
    · rw [am_I_wI, if_pos ⟨rfl, rfl⟩]; exact z _
  have hB4 : 0 < sB S ^ 4 := Nat.pow_pos (sB_pos S)
  have be : qBe S (am_wI (am_wI (am_wI (am_wI σ1 86 0 (nI 0)) 86 1 (nI 0)) 86 2 (nI 0)) 86 3 (nI 0)) (0, 268435456, 0) := ⟨fun q => absurd q (by decide), by decide, Nat.le_refl _⟩
  obtain ⟨σ3, l5, e3, hp3, B3⟩ := m192l (X := X) (d := d) (w := nI k) hO (sB S ^ 4 - 1) 0 _ _ (none) (by omega) q2 be
  rw [show sB S ^ 4 - 1 + 1 = sB S ^ 4 by omega, sSe_2] at e3 B3
  refine ⟨σ3, ?_, hp3⟩
  have x0 := ix86 hF1 (show 0 < 4 by decide)
  have x1 := ix86 hF1 (show 1 < 4 by decide)
  have x2 := ix86 hF1 (show 2 < 4 by decide)
  have x3 := ix86 hF1 (show 3 < 4 by decide)
  have f0 := nI_cl (show 0 < 2147483648 by decide)
  have f1 := nI_cl (show 1 < 2147483648 by decide)
  have f2 := nI_cl (show 2 < 2147483648 by decide)
  have f3 := nI_cl (show 3 < 2147483648 by decide)
  have t0 : ¬ nI 4 ≤ nI 0 := by decide +kernel
  have t1 : ¬ nI 4 ≤ nI 1 := by decide +kernel
  have t2 : ¬ nI 4 ≤ nI 2 := by decide +kernel
  have t3 : ¬ nI 4 ≤ nI 3 := by decide +kernel
  have t4 : nI 4 ≤ nI 4 := by decide +kernel
  rw [s192]
  simp only [s192_0, s192_1, s192_4, s192_5, s192_6, s192_7, s192_8, s192_11, s192_12, s192_15, s192_16, s192_17, s192_18, s192_21, s192_24, s192_25, s192_26, s192_29, s192_30, s192_31, am_pu_s, am_pu_n, va_rf_s, va_rf_n, Option.bind_some, true_or, or_true, eq_self, if_true, if_false, ite_self, ite_true, ite_false, ↓reduceIte, reduceCtorEq, Nat.reduceEqDiff, Nat.reduceAdd, Nat.reduceLT, Nat.reduceLeDiff, Nat.reduceMul, Nat.reduceSub, not_true_eq_false, not_false_eq_true, and_self, and_true, true_and, and_false, false_and, am_I_wI, am_I_wJ, am_J_wI, am_J_wJ, am_R_wI, am_R_wJ, am_kd_wI, am_kd_wJ, am_ln_wI, am_ln_wJ, am_ix_wI, am_ix_wJ, am_F_wI, am_F_wJ, am_I_wC, am_J_wC, am_R_wC, am_kd_wC, am_ln_wC, am_ix_wC, am_F_wC, hF, hF1, kd66, e1, rr66_36, x0, x1, x2, x3, f0, f1, f2, f3, t0, t1, t2, t3, t4, nI_add]
  refine Eq.trans e3 ?_
  have hF3 := hp3.1
  unfold rSn
  rcases hk with rfl | rfl | hk
  · simp only [s192_117, s192_118, s192_121, s192_122, s192_125, s192_126, s192_127, s192_130, s192_131, s192_134, s192_135, s192_138, s192_139, s192_141, s192_142, s192_143, s192_144, s192_145, am_pu_s, am_pu_n, va_rf_s, va_rf_n, Option.bind_some, true_or, or_true, eq_self, if_true, if_false, ite_self, ite_true, ite_false, ↓reduceIte, reduceCtorEq, Nat.reduceEqDiff, Nat.reduceAdd, Nat.reduceLT, Nat.reduceLeDiff, Nat.reduceMul, Nat.reduceSub, not_true_eq_false, not_false_eq_true, and_self, and_true, true_and, and_false, false_and]
  · have k2 : ¬ nI 1 = nI 0 := by decide +kernel
    have k3 : ¬ (1 : Nat) = 0 := by decide
    simp only [s192_117, s192_118, s192_121, s192_122, s192_125, s192_126, s192_127, s192_130, s192_131, s192_134, s192_135, s192_138, s192_139, s192_141, s192_142, s192_143, s192_144, s192_145, am_pu_s, am_pu_n, va_rf_s, va_rf_n, Option.bind_some, true_or, or_true, eq_self, if_true, if_false, ite_self, ite_true, ite_false, ↓reduceIte, reduceCtorEq, Nat.reduceEqDiff, Nat.reduceAdd, Nat.reduceLT, Nat.reduceLeDiff, Nat.reduceMul, Nat.reduceSub, not_true_eq_false, not_false_eq_true, and_self, and_true, true_and, and_false, false_and, k2, k3]
  · have a5 : ¬ nI k = nI 0 := by rw [nI_EQ (by omega) (by decide)]; omega
    have a6 : ¬ nI k = nI 1 := by rw [nI_EQ (by omega) (by decide)]; omega
    have a7 : nI k - nI 10 = nI (k - 10) := pk_sub (by omega)
    have a8 := B3.1 (sSe_pos S) (k - 10) (by omega)
    have a9 : ∀ n, nI n - nI 1 = wM n := fun n => by
      unfold wM
      by_cases hn : n = 0
      · subst hn; decide +kernel
      · rw [if_neg hn, pk_sub (by omega)]
    have b1 : ¬ k = 0 := by omega
    have b2 : ¬ k = 1 := by omega
    simp only [s192_117, s192_118, s192_121, s192_122, s192_125, s192_126, s192_127, s192_130, s192_131, s192_134, s192_135, s192_138, s192_139, s192_141, s192_142, s192_143, s192_144, s192_145, am_pu_s, am_pu_n, va_rf_s, va_rf_n, Option.bind_some, true_or, or_true, eq_self, if_true, if_false, ite_self, ite_true, ite_false, ↓reduceIte, reduceCtorEq, Nat.reduceEqDiff, Nat.reduceAdd, Nat.reduceLT, Nat.reduceLeDiff, Nat.reduceMul, Nat.reduceSub, not_true_eq_false, not_false_eq_true, and_self, and_true, true_and, and_false, false_and, a5, a6, a7, a8, a9, b1, b2, hF3, kd66, rr66_37, ix87 hF3 (show k - 10 < 4 by omega), nI_cl (show k - 10 < 2147483648 by omega)]
theorem c193 (h : mRep S σ) (hO : sOK N S) : ∃ σ', am_v X (d + 9) 193 [.ref (66 : Nat), .int v] σ = some (some (.int (rSend S v)), σ') ∧ am_pr nsB σ σ' := by
  have hF := h.1
  have hG := sO_G hO
  have e0 : (nI (S 4 0 0) = nI 0) = (S 4 0 0 = 0) := nI_EQ (by omega) (by decide)
  unfold rSend
  rcases wSend_c v with rfl | rfl | ⟨j, hj, rfl⟩ | ⟨h0, h1, h2, h3⟩
  · have a1 : nI 0 ≤ nI 0 ∧ nI 0 ≤ nI 1 := by decide +kernel
    rw [if_pos (Or.inl rfl)]
    by_cases hg : S 4 0 0 = 0
    · refine ⟨σ, ?_, am_pr.rf hF⟩
      rw [if_pos hg, s193]
      simp only [s193_0, s193_1, s193_2, s193_3, s193_6, s193_9, s193_10, s193_12, s193_14, s193_17, s193_20, s193_22, s193_23, s193_24, s193_27, s193_30, s193_32, s193_35, s193_36, s193_37, s193_40, am_pu_s, am_pu_n, va_rf_s, va_rf_n, Option.bind_some, true_or, or_true, eq_self, if_true, if_false, ite_self, ite_true, ite_false, ↓reduceIte, reduceCtorEq, Nat.reduceEqDiff, Nat.reduceAdd, Nat.reduceLT, Nat.reduceLeDiff, Nat.reduceMul, Nat.reduceSub, not_true_eq_false, not_false_eq_true, and_self, and_true, true_and, and_false, false_and, m124, bI_t a1, nI_10, hF, kd66, mR_G h, e0, hg]
    · obtain ⟨σ2, e2, hp⟩ := m192 (X := X) (d := d) h hO (k := 0) (Or.inl rfl)
      refine ⟨σ2, ?_, hp⟩
      rw [if_neg hg, s193]
      simp only [s193_0, s193_1, s193_2, s193_3, s193_6, s193_9, s193_10, s193_12, s193_14, s193_17, s193_20, s193_22, s193_23, s193_24, s193_27, s193_30, s193_32, s193_35, s193_36, s193_37, s193_40, am_pu_s, am_pu_n, va_rf_s, va_rf_n, Option.bind_some, true_or, or_true, eq_self, if_true, if_false, ite_self, ite_true, ite_false, ↓reduceIte, reduceCtorEq, Nat.reduceEqDiff, Nat.reduceAdd, Nat.reduceLT, Nat.reduceLeDiff, Nat.reduceMul, Nat.reduceSub, not_true_eq_false, not_false_eq_true, and_self, and_true, true_and, and_false, false_and, m124, bI_t a1, nI_10, hF, kd66, mR_G h, e0, hg, e2, nI_c0]
  · have a1 : nI 0 ≤ nI 1 ∧ nI 1 ≤ nI 1 := by decide +kernel
    rw [if_pos (Or.inr (Or.inl rfl))]
    by_cases hg : S 4 0 0 = 0
    · refine ⟨σ, ?_, am_pr.rf hF⟩
      rw [if_pos hg, s193]
      simp only [s193_0, s193_1, s193_2, s193_3, s193_6, s193_9, s193_10, s193_12, s193_14, s193_17, s193_20, s193_22, s193_23, s193_24, s193_27, s193_30, s193_32, s193_35, s193_36, s193_37, s193_40, am_pu_s, am_pu_n, va_rf_s, va_rf_n, Option.bind_some, true_or, or_true, eq_self, if_true, if_false, ite_self, ite_true, ite_false, ↓reduceIte, reduceCtorEq, Nat.reduceEqDiff, Nat.reduceAdd, Nat.reduceLT, Nat.reduceLeDiff, Nat.reduceMul, Nat.reduceSub, not_true_eq_false, not_false_eq_true, and_self, and_true, true_and, and_false, false_and, m124, bI_t a1, nI_10, hF, kd66, mR_G h, e0, hg]
    · obtain ⟨σ2, e2, hp⟩ := m192 (X := X) (d := d) h hO (k := 1) (Or.inr (Or.inl rfl))
      refine ⟨σ2, ?_, hp⟩
      rw [if_neg hg, s193]
      simp only [s193_0, s193_1, s193_2, s193_3, s193_6, s193_9, s193_10, s193_12, s193_14, s193_17, s193_20, s193_22, s193_23, s193_24, s193_27, s193_30, s193_32, s193_35, s193_36, s193_37, s193_40, am_pu_s, am_pu_n, va_rf_s, va_rf_n, Option.bind_some, true_or, or_true, eq_self, if_true, if_false, ite_self, ite_true, ite_false, ↓reduceIte, reduceCtorEq, Nat.reduceEqDiff, Nat.reduceAdd, Nat.reduceLT, Nat.reduceLeDiff, Nat.reduceMul, Nat.reduceSub, not_true_eq_false, not_false_eq_true, and_self, and_true, true_and, and_false, false_and, m124, bI_t a1, nI_10, hF, kd66, mR_G h, e0, hg, e2, nI_cl (show 1 < 2147483648 by decide)]
  · have a0 : ¬ (nI 0 ≤ nI (10 + j) ∧ nI (10 + j) ≤ nI 1) := fun q => nI_ge (show 1 < 10 + j by omega) (by omega) q.2
    have a1 : nI 10 ≤ nI (10 + j) ∧ nI (10 + j) ≤ nI 13 := ⟨nI_le (by omega) (by omega), nI_le (by omega) (by decide)⟩
    rw [if_pos (Or.inr (Or.inr a1))]
    by_cases hg : S 4 0 0 = 0
    · refine ⟨σ, ?_, am_pr.rf hF⟩
      rw [if_pos hg, s193]
      simp only [s193_0, s193_1, s193_2, s193_3, s193_6, s193_9, s193_10, s193_12, s193_14, s193_17, s193_20, s193_22, s193_23, s193_24, s193_27, s193_30, s193_32, s193_35, s193_36, s193_37, s193_40, am_pu_s, am_pu_n, va_rf_s, va_rf_n, Option.bind_some, true_or, or_true, eq_self, if_true, if_false, ite_self, ite_true, ite_false, ↓reduceIte, reduceCtorEq, Nat.reduceEqDiff, Nat.reduceAdd, Nat.reduceLT, Nat.reduceLeDiff, Nat.reduceMul, Nat.reduceSub, not_true_eq_false, not_false_eq_true, and_self, and_true, true_and, and_false, false_and, m124, bI_f a0, bI_t a1, nI_10, hF, kd66, mR_G h, e0, hg]
    · obtain ⟨σ2, e2, hp⟩ := m192 (X := X) (d := d) h hO (k := 10 + j) (Or.inr (Or.inr ⟨by omega, by omega⟩))
      refine ⟨σ2, ?_, hp⟩
      rw [if_neg hg, s193, nI_cl (show 10 + j < 2147483648 by omega)]
      simp only [s193_0, s193_1, s193_2, s193_3, s193_6, s193_9, s193_10, s193_12, s193_14, s193_17, s193_20, s193_22, s193_23, s193_24, s193_27, s193_30, s193_32, s193_35, s193_36, s193_37, s193_40, am_pu_s, am_pu_n, va_rf_s, va_rf_n, Option.bind_some, true_or, or_true, eq_self, if_true, if_false, ite_self, ite_true, ite_false, ↓reduceIte, reduceCtorEq, Nat.reduceEqDiff, Nat.reduceAdd, Nat.reduceLT, Nat.reduceLeDiff, Nat.reduceMul, Nat.reduceSub, not_true_eq_false, not_false_eq_true, and_self, and_true, true_and, and_false, false_and, m124, bI_f a0, bI_t a1, nI_10, hF, kd66, mR_G h, e0, hg, e2]
  · refine ⟨σ, ?_, am_pr.rf hF⟩
    have a0 : ¬ (nI 0 ≤ v ∧ v ≤ nI 1) := fun q => by
      obtain ⟨s, hs, rfl⟩ := i32_nn (Int32.not_lt.mpr q.1)
      have e1 : s ≤ 1 := (nI_leI hs (by decide)).mp q.2
      have e2 : s = 0 ∨ s = 1 := by omega
      rcases e2 with rfl | rfl
      · exact h0 rfl
      · exact h1 rfl
    rw [if_neg (by rintro (q | q | q); exact h0 q; exact h1 q; exact h2 q), s193]
    simp only [s193_0, s193_1, s193_2, s193_3, s193_6, s193_9, s193_10, s193_12, s193_14, s193_17, s193_20, s193_22, s193_23, s193_24, s193_27, s193_30, s193_32, s193_35, s193_36, s193_37, s193_40, am_pu_s, am_pu_n, va_rf_s, va_rf_n, Option.bind_some, true_or, or_true, eq_self, if_true, if_false, ite_self, ite_true, ite_false, ↓reduceIte, reduceCtorEq, Nat.reduceEqDiff, Nat.reduceAdd, Nat.reduceLT, Nat.reduceLeDiff, Nat.reduceMul, Nat.reduceSub, not_true_eq_false, not_false_eq_true, and_self, and_true, true_and, and_false, false_and, m124, bI_f a0, bI_f h2, nI_10]
end MS
