/-! SEND: the plan made -/
def sSe (S : am_St) : Nat × Nat × Nat := am_fd (sEv S) 0 (sB S ^ 4) (0, 0, 0)
theorem sPf_z (S : am_St) : ∀ b, sPf S b 0 = some (0, 0, 0)
  | 0 => rfl
  | b + 1 => by
    have h := sPf_0 (sPf_z S b)
    rw [Nat.zero_mul] at h
    exact h
theorem sEv_z (S : am_St) (c r : Nat) : sEv S 0 (0, c, r) = (1, 0, 0) := by
  unfold sEv
  rw [sPf_z]
  rfl
theorem sEv_pos {S : am_St} {r : Nat} {a : Nat × Nat × Nat} (h : 0 < a.1) : 0 < (sEv S r a).1 := by
  unfold sEv
  split
  · exact h
  · unfold sBt
    split
    · exact Nat.succ_pos _
    · exact h
theorem fdE_pos {S : am_St} : ∀ n i (a : Nat × Nat × Nat), 0 < a.1 → 0 < (am_fd (sEv S) i n a).1
  | 0, _, _, h => h
  | n + 1, i, a, h => fdE_pos n (i + 1) _ (sEv_pos h)
theorem sSe_2 (S : am_St) (c r : Nat) : am_fd (sEv S) 0 (sB S ^ 4) (0, c, r) = sSe S := by
  unfold sSe
  have h : 0 < sB S ^ 4 := Nat.pow_pos (sB_pos S)
  obtain ⟨n, hn⟩ : ∃ n, sB S ^ 4 = n + 1 := ⟨sB S ^ 4 - 1, by omega⟩
  rw [hn]
  show am_fd (sEv S) 1 n (sEv S 0 (0, c, r)) = am_fd (sEv S) 1 n (sEv S 0 (0, 0, 0))
  rw [sEv_z, sEv_z]
theorem sSe_pos (S : am_St) : 0 < (sSe S).1 := by
  unfold sSe
  have h : 0 < sB S ^ 4 := Nat.pow_pos (sB_pos S)
  obtain ⟨n, hn⟩ : ∃ n, sB S ^ 4 = n + 1 := ⟨sB S ^ 4 - 1, by omega⟩
  rw [hn]
  show 0 < (am_fd (sEv S) 1 n (sEv S 0 (0, 0, 0))).1
  rw [sEv_z]
  exact fdE_pos n 1 _ (by decide)
section SM
variable {X : am_X} {d N : Nat} {σ σ0 : am_M} {S : am_St} {a : Nat × Nat × Nat} {v : Int32}
/-- the plan, made -/
def qP (S : am_St) (σ0 σ : am_M) : Prop := am_pr nsB σ0 σ ∧ am_I σ 57 3 = wM (sSe S).1 ∧ am_I σ 57 4 = nI (sSe S).2.1 ∧ ∀ j, j < 4 → am_I σ 64 j = wM (sD S (sSe S).2.2 j)
theorem gI_0 {k : Nat} (hG : S 4 0 0 ≤ k) (hk : k < 4) : gI S (nI k) = none := by
  unfold gI
  rw [if_pos (Or.inr (nI_le hG (by omega)))]
theorem m26 (h : cRep S σ) (hO : sOK N S) : ∃ σ', am_v X (d + 7) 26 [.ref (57 : Nat), .ref (8 : Nat), .ref (54 : Nat)] σ = some (none, σ') ∧ qP S σ σ' := by
  have hG := sO_G hO
  have hF := h.1
  have inner : ∀ b, b < 4 → ∀ n k σ1, k + n = 4 → am_pr nsB σ σ1 → (∀ b' g', b' < 4 → g' < 4 → (b' < b ∨ (b' = b ∧ g' < k)) → am_I σ1 (59 + b') g' = wM (sCg S b' g')) → ∃ σ', am_w X (d + 6) 26 10 [some (.ref (57 : Nat)), some (.ref (8 : Nat)), some (.ref (54 : Nat)), some (.int (nI b)), some (.int (nI k))] [] σ1 = am_w X (d + 6) 26 46 [some (.ref (57 : Nat)), some (.ref (8 : Nat)), some (.ref (54 : Nat)), some (.int (nI b)), some (.int (nI 4))] [] σ' ∧ am_pr nsB σ σ' ∧ (∀ b' g', b' < 4 → g' < 4 → b' < b + 1 → am_I σ' (59 + b') g' = wM (sCg S b' g')) := by
    intro b hb n
    induction n with
    | zero =>
      intro k σ1 hk hp hr
      have hk : k = 4 := by omega
      subst hk
      refine ⟨σ1, ?_, hp, fun b' g' q1 q2 q3 => hr b' g' q1 q2 (by omega)⟩
      have c1 : nI 4 ≤ nI 4 := Int32.le_refl _
      rw [s26_10]
      simp only [s26_12, s26_13, am_pu_s, am_pu_n, va_rf_s, va_rf_n, Option.bind_some, true_or, or_true, eq_self, if_true, if_false, ite_self, ite_true, ite_false, ↓reduceIte, reduceCtorEq, Nat.reduceEqDiff, Nat.reduceAdd, Nat.reduceLT, Nat.reduceLeDiff, Nat.reduceMul, Nat.reduceSub, not_true_eq_false, not_false_eq_true, and_self, and_true, true_and, and_false, false_and, c1]
    | succ n ih =>
      intro k σ1 hk hp hr
      have h1 := h.piB hp.i
      have hk4 : k < 4 := by omega
      have c0 : ¬ nI 4 ≤ nI k := nI_ge (by omega) (by decide)
      have nb := nI_cl (show b < 2147483648 by omega)
      have nk := nI_cl (show k < 2147483648 by omega)
      have key : ∀ σ2, am_pr nsB σ σ2 → (∀ o k, 57 ≤ o → o ≤ 62 → am_I σ2 o k = am_I σ1 o k) → ∃ σ', am_w X (d + 6) 26 10 [some (.ref (57 : Nat)), some (.ref (8 : Nat)), some (.ref (54 : Nat)), some (.int (nI b)), some (.int (nI (k + 1)))] [] (am_wI σ2 (59 + b) k (wM (sCg S b k))) = am_w X (d + 6) 26 46 [some (.ref (57 : Nat)), some (.ref (8 : Nat)), some (.ref (54 : Nat)), some (.int (nI b)), some (.int (nI 4))] [] σ' ∧ am_pr nsB σ σ' ∧ (∀ b' g', b' < 4 → g' < 4 → b' < b + 1 → am_I σ' (59 + b') g' = wM (sCg S b' g')) := by
        intro σ2 hp2 hs
        refine ih (k + 1) _ (by omega) (hp2.w ?_) ?_
        · have : b = 0 ∨ b = 1 ∨ b = 2 ∨ b = 3 := by omega
          rcases this with rfl | rfl | rfl | rfl <;> rfl
        · intro b' g' q1 q2 q3
          rw [am_I_wI]
          by_cases e : b' = b ∧ g' = k
          · rw [if_pos ⟨by omega, e.2⟩, e.1, e.2]
          · rw [if_neg (by omega), hs _ _ (by omega) (by omega)]
            exact hr b' g' q1 q2 (by omega)
      by_cases h0 : 0 < S 1 b 0
      · by_cases hg : k < S 4 0 0
        · have e : sCg S b k = sCh S b k := if_pos hg
          obtain ⟨σ2, e2, hp2⟩ := m28 (X := X) (d := d) h1 hO hb hk4 h0
          obtain ⟨σ', r1, r2⟩ := key σ2 (hp.tr hp2.A_B) (fun o k q1 q2 => hp2.2.1 o k (by
            have : o = 57 ∨ o = 58 ∨ o = 59 ∨ o = 60 ∨ o = 61 ∨ o = 62 := by omega
            rcases this with rfl | rfl | rfl | rfl | rfl | rfl <;> rfl))
          refine ⟨σ', ?_, r2⟩
          rw [e] at r1
          rw [s26_10]
          simp only [s26_12, s26_13, s26_16, s26_17, s26_20, s26_21, s26_22, s26_24, s26_25, s26_26, s26_29, s26_30, s26_32, s26_35, s26_36, s26_39, s26_40, s26_43, am_pu_s, am_pu_n, va_rf_s, va_rf_n, Option.bind_some, true_or, or_true, eq_self, if_true, if_false, ite_self, ite_true, ite_false, ↓reduceIte, reduceCtorEq, Nat.reduceEqDiff, Nat.reduceAdd, Nat.reduceLT, Nat.reduceLeDiff, Nat.reduceMul, Nat.reduceSub, not_true_eq_false, not_false_eq_true, and_self, and_true, true_and, and_false, false_and, hp.1, hp2.1, kd57, kd8, c0, rr57_0, ix58 hp.1 hb, nb, nk, rCh hp.1 hb, m76s h1 hO hb h0, m77s h1 hO hg hk4, e2, ixCh hp2.1 hb hk4, nI_add]
          exact r1
        · have e : wM (sCg S b k) = -1 := by unfold sCg; rw [if_neg hg]; rfl
          obtain ⟨σ', r1, r2⟩ := key σ1 hp (fun _ _ _ _ => rfl)
          refine ⟨σ', ?_, r2⟩
          rw [e] at r1
          rw [s26_10]
          simp only [s26_12, s26_13, s26_16, s26_17, s26_20, s26_21, s26_22, s26_24, s26_25, s26_26, s26_29, s26_30, s26_32, s26_35, s26_36, s26_39, s26_40, s26_43, n26c, n28c, am_pu_s, am_pu_n, va_rf_s, va_rf_n, Option.bind_some, true_or, or_true, eq_self, if_true, if_false, ite_self, ite_true, ite_false, ↓reduceIte, reduceCtorEq, Nat.reduceEqDiff, Nat.reduceAdd, Nat.reduceLT, Nat.reduceLeDiff, Nat.reduceMul, Nat.reduceSub, not_true_eq_false, not_false_eq_true, and_self, and_true, true_and, and_false, false_and, hp.1, kd57, kd8, c0, rr57_0, ix58 hp.1 hb, nb, nk, rCh hp.1 hb, m76s h1 hO hb h0, m77n h1 hO (gI_0 (Nat.le_of_not_lt hg) hk4), ixCh hp.1 hb hk4, nI_add]
          exact r1
      · have e : wM (sCg S b k) = -1 := by
          have e0 : sCh S b k = 0 := if_neg (fun q => h0 q.1)
          unfold sCg
          rw [e0, ite_self]
          rfl
        obtain ⟨σ', r1, r2⟩ := key σ1 hp (fun _ _ _ _ => rfl)
        refine ⟨σ', ?_, r2⟩
        rw [e] at r1
        rw [s26_10]
        by_cases hg : k < S 4 0 0
        · simp only [s26_12, s26_13, s26_16, s26_17, s26_20, s26_21, s26_22, s26_24, s26_25, s26_26, s26_29, s26_30, s26_32, s26_35, s26_36, s26_39, s26_40, s26_43, n26a, n28a, am_pu_s, am_pu_n, va_rf_s, va_rf_n, Option.bind_some, true_or, or_true, eq_self, if_true, if_false, ite_self, ite_true, ite_false, ↓reduceIte, reduceCtorEq, Nat.reduceEqDiff, Nat.reduceAdd, Nat.reduceLT, Nat.reduceLeDiff, Nat.reduceMul, Nat.reduceSub, not_true_eq_false, not_false_eq_true, and_self, and_true, true_and, and_false, false_and, hp.1, kd57, kd8, c0, rr57_0, ix58 hp.1 hb, nb, nk, rCh hp.1 hb, m76n h1 (tI_0 hb (show S 1 b 0 = 0 by omega)), m77s h1 hO hg hk4, ixCh hp.1 hb hk4, nI_add]
          exact r1
        · simp only [s26_12, s26_13, s26_16, s26_17, s26_20, s26_21, s26_22, s26_24, s26_25, s26_26, s26_29, s26_30, s26_32, s26_35, s26_36, s26_39, s26_40, s26_43, n26b, n28b, am_pu_s, am_pu_n, va_rf_s, va_rf_n, Option.bind_some, true_or, or_true, eq_self, if_true, if_false, ite_self, ite_true, ite_false, ↓reduceIte, reduceCtorEq, Nat.reduceEqDiff, Nat.reduceAdd, Nat.reduceLT, Nat.reduceLeDiff, Nat.reduceMul, Nat.reduceSub, not_true_eq_false, not_false_eq_true, and_self, and_true, true_and, and_false, false_and, hp.1, kd57, kd8, c0, rr57_0, ix58 hp.1 hb, nb, nk, rCh hp.1 hb, m76n h1 (tI_0 hb (show S 1 b 0 = 0 by omega)), m77n h1 hO (gI_0 (Nat.le_of_not_lt hg) hk4), ixCh hp.1 hb hk4, nI_add]
          exact r1
  have ways : ∀ n w σ1 a l4, w + n = 625 → pRp S σ σ1 a → ∃ σ', am_w X (d + 6) 26 64 [some (.ref (57 : Nat)), some (.ref (8 : Nat)), some (.ref (54 : Nat)), some (.int (nI w)), l4] [] σ1 = some (none, σ') ∧ pRp S σ σ' (am_fd (sE5 S) w n a) := by
    intro n
    induction n with
    | zero =>
      intro w σ1 a l4 hw hp
      have hw : w = 625 := by omega
      subst hw
      refine ⟨σ1, ?_, hp⟩
      have c1 : nI 625 ≤ nI 625 := Int32.le_refl _
      rw [s26_64]
      simp only [s26_65, s26_68, s26_82, am_pu_s, am_pu_n, va_rf_s, va_rf_n, Option.bind_some, true_or, or_true, eq_self, if_true, if_false, ite_self, ite_true, ite_false, ↓reduceIte, reduceCtorEq, Nat.reduceEqDiff, Nat.reduceAdd, Nat.reduceLT, Nat.reduceLeDiff, Nat.reduceMul, Nat.reduceSub, not_true_eq_false, not_false_eq_true, and_self, and_true, true_and, and_false, false_and, c1]
    | succ n ih =>
      intro w σ1 a l4 hw hp
      have c0 : ¬ nI 625 ≤ nI w := nI_ge (by omega) (by decide)
      obtain ⟨σ2, e2, p2⟩ := m29 (X := X) (d := d + 4) hO (show w < 625 by omega) hp
      obtain ⟨σ', r1, r2⟩ := ih (w + 1) σ2 _ l4 (by omega) p2
      refine ⟨σ', ?_, r2⟩
      rw [s26_64]
      simp only [s26_65, s26_68, s26_71, s26_72, s26_73, s26_76, s26_79, am_pu_s, am_pu_n, va_rf_s, va_rf_n, Option.bind_some, true_or, or_true, eq_self, if_true, if_false, ite_self, ite_true, ite_false, ↓reduceIte, reduceCtorEq, Nat.reduceEqDiff, Nat.reduceAdd, Nat.reduceLT, Nat.reduceLeDiff, Nat.reduceMul, Nat.reduceSub, not_true_eq_false, not_false_eq_true, and_self, and_true, true_and, and_false, false_and, hp.1.1, kd57, c0, e2, nI_add]
      exact r1
  have outer : ∀ n b σ1 l4, b + n = 4 → am_pr nsB σ σ1 → (∀ b' g', b' < 4 → g' < 4 → b' < b → am_I σ1 (59 + b') g' = wM (sCg S b' g')) → ∃ σ', am_w X (d + 6) 26 2 [some (.ref (57 : Nat)), some (.ref (8 : Nat)), some (.ref (54 : Nat)), some (.int (nI b)), l4] [] σ1 = some (none, σ') ∧ pRp S σ σ' (am_fd (sE5 S) 0 625 (0, 0, 0)) := by
    intro n
    induction n with
    | zero =>
      intro b σ1 l4 hb hp hr
      have hb : b = 4 := by omega
      subst hb
      have p0 : pRp S σ (am_wI (am_wI σ1 57 3 (-1)) 57 4 (nI 0)) (0, 0, 0) := by
        refine ⟨(hp.w (by rfl)).w (by rfl), fun b g q1 q2 => ?_, ⟨?_, ?_, fun q => absurd q (by decide)⟩, by decide, by decide⟩
        · rw [am_I_wI, if_neg (by omega), am_I_wI, if_neg (by omega)]
          exact hr b g q1 q2 q1
        · rw [am_I_wI, if_neg (by omega), am_I_wI, if_pos ⟨rfl, rfl⟩]
          rfl
        · rw [am_I_wI, if_pos ⟨rfl, rfl⟩]
      obtain ⟨σ', r1, r2⟩ := ways 625 0 _ _ l4 (by omega) p0
      refine ⟨σ', ?_, r2⟩
      have c1 : nI 4 ≤ nI 4 := Int32.le_refl _
      rw [s26_2]
      simp only [s26_3, s26_4, s26_52, s26_53, s26_54, s26_57, s26_58, s26_59, s26_62, s26_63, am_pu_s, am_pu_n, va_rf_s, va_rf_n, Option.bind_some, true_or, or_true, eq_self, if_true, if_false, ite_self, ite_true, ite_false, ↓reduceIte, reduceCtorEq, Nat.reduceEqDiff, Nat.reduceAdd, Nat.reduceLT, Nat.reduceLeDiff, Nat.reduceMul, Nat.reduceSub, not_true_eq_false, not_false_eq_true, and_self, and_true, true_and, and_false, false_and, am_I_wI, am_I_wJ, am_J_wI, am_J_wJ, am_R_wI, am_R_wJ, am_kd_wI, am_kd_wJ, am_ln_wI, am_ln_wJ, am_ix_wI, am_ix_wJ, am_F_wI, am_F_wJ, am_I_wC, am_J_wC, am_R_wC, am_kd_wC, am_ln_wC, am_ix_wC, am_F_wC, hp.1, kd57, c1]
      exact r1
    | succ n ih =>
      intro b σ1 l4 hb hp hr
      have hb4 : b < 4 := by omega
      have c0 : ¬ nI 4 ≤ nI b := nI_ge (by omega) (by decide)
      obtain ⟨σ2, r1, r2, r3⟩ := inner b hb4 4 0 σ1 (by omega) hp (fun b' g' q1 q2 q3 => hr b' g' q1 q2 (by omega))
      obtain ⟨σ3, t1, t2⟩ := ih (b + 1) σ2 (some (.int (nI 4))) (by omega) r2 r3
      refine ⟨σ3, ?_, t2⟩
      rw [s26_2]
      simp only [s26_3, s26_4, s26_7, s26_8, am_pu_s, am_pu_n, va_rf_s, va_rf_n, Option.bind_some, true_or, or_true, eq_self, if_true, if_false, ite_self, ite_true, ite_false, ↓reduceIte, reduceCtorEq, Nat.reduceEqDiff, Nat.reduceAdd, Nat.reduceLT, Nat.reduceLeDiff, Nat.reduceMul, Nat.reduceSub, not_true_eq_false, not_false_eq_true, and_self, and_true, true_and, and_false, false_and, c0]
      rw [r1]
      simp only [s26_46, s26_49, am_pu_s, am_pu_n, va_rf_s, va_rf_n, Option.bind_some, true_or, or_true, eq_self, if_true, if_false, ite_self, ite_true, ite_false, ↓reduceIte, reduceCtorEq, Nat.reduceEqDiff, Nat.reduceAdd, Nat.reduceLT, Nat.reduceLeDiff, Nat.reduceMul, Nat.reduceSub, not_true_eq_false, not_false_eq_true, and_self, and_true, true_and, and_false, false_and, nI_add]
      exact t1
  obtain ⟨σ', r1, r2⟩ := outer 4 0 σ none (by omega) (am_pr.rf hF) (fun b' g' _ _ q => absurd q (by omega))
  obtain ⟨z1, z2, z3⟩ := sRl_all hO (0, 0, 0) (0, 0, 0) ⟨rfl, rfl, fun q => absurd q (by decide)⟩
  have hpos := sSe_pos S
  rw [← sSe] at z1 z2 z3
  obtain ⟨hp, _, ⟨h4, h5, h6⟩, _, _⟩ := r2
  rw [z1] at h4
  rw [z2] at h5
  refine ⟨σ', ?_, hp, h4, h5, fun j hj => ?_⟩
  · rw [s26]
    simp only [s26_0, s26_1, am_pu_s, am_pu_n, va_rf_s, va_rf_n, Option.bind_some, true_or, or_true, eq_self, if_true, if_false, ite_self, ite_true, ite_false, ↓reduceIte, reduceCtorEq, Nat.reduceEqDiff, Nat.reduceAdd, Nat.reduceLT, Nat.reduceLeDiff, Nat.reduceMul, Nat.reduceSub, not_true_eq_false, not_false_eq_true, and_self, and_true, true_and, and_false, false_and]
    exact r1
  · rw [h6 (by rw [z1]; exact hpos) j hj, z3 hpos j hj]
theorem m27 {k : Nat} (hF : am_F σ) (hk : k < 4) : am_v X (d + 1) 27 [.ref (57 : Nat), .int (nI k)] σ = some (some (.int (am_I σ 64 k)), σ) := by
  rw [s27]
  have c1 : ¬ nI k < nI 0 := nI_pos (by omega)
  have c2 : nI k < nI 4 := nI_lt hk (by decide)
  simp only [s27_0, s27_1, s27_4, s27_5, s27_6, s27_9, s27_10, s27_13, s27_14, s27_17, s27_18, s27_19, am_pu_s, am_pu_n, va_rf_s, va_rf_n, Option.bind_some, true_or, or_true, eq_self, if_true, if_false, ite_self, ite_true, ite_false, ↓reduceIte, reduceCtorEq, Nat.reduceEqDiff, Nat.reduceAdd, Nat.reduceLT, Nat.reduceLeDiff, Nat.reduceMul, Nat.reduceSub, not_true_eq_false, not_false_eq_true, and_self, and_true, true_and, and_false, false_and, hF, kd57, rr57_2, c1, c2, ix64 hF hk, nI_cl (show k < 2147483648 by omega)]
def rSn (S : am_St) (k : Nat) : Int32 := if k = 0 then wM (sSe S).1 else if k = 1 then nI (sSe S).2.1 else wM (sD S (sSe S).2.2 (k - 10))
def rSend (S : am_St) (v : Int32) : Int32 := if v = nI 0 ∨ v = nI 1 ∨ (nI 10 ≤ v ∧ v ≤ nI 13) then (if S 4 0 0 = 0 then -103 else rSn S v.toNatClampNeg) else -102
theorem wSend_c (v : Int32) : v = nI 0 ∨ v = nI 1 ∨ (∃ j, j < 4 ∧ v = nI (10 + j)) ∨ (¬ v = nI 0 ∧ ¬ v = nI 1 ∧ ¬ (nI 10 ≤ v ∧ v ≤ nI 13) ∧ (v - nI 10 < nI 0 ∨ nI 4 ≤ v - nI 10)) := by
  by_cases h0 : v = nI 0
  · exact Or.inl h0
  by_cases h1 : v = nI 1
  · exact Or.inr (Or.inl h1)
  by_cases h2 : nI 10 ≤ v ∧ v ≤ nI 13
  · have hv : ¬ v < nI 0 := fun q => Int32.not_le.mpr (Int32.lt_trans q (nI_lt (show 0 < 10 by decide) (by decide))) h2.1
    obtain ⟨s, hs, rfl⟩ := i32_nn hv
    have e1 : 10 ≤ s := (nI_leI (by decide) hs).mp h2.1
    have e2 : s ≤ 13 := (nI_leI hs (by decide)).mp h2.2
    exact Or.inr (Or.inr (Or.inl ⟨s - 10, by omega, by rw [show 10 + (s - 10) = s by omega]⟩))
  · refine Or.inr (Or.inr (Or.inr ⟨h0, h1, h2, ?_⟩))
    rcases pk_ix (v - nI 10) (show 4 < 2 ^ 31 by decide) with q | q | ⟨j, hj, q⟩
    · exact Or.inl q
    · exact Or.inr q
    · exfalso
      have e : v = nI (j + 10) := by
        rw [← nI_add, ← q, Int32.sub_add_cancel]
      apply h2
      rw [e]
      exact ⟨nI_le (by omega) (by omega), nI_le (by omega) (by decide)⟩
theorem c107 (h : cRep S σ) (hO : sOK N S) : ∃ σ', am_v X (d + 8) 107 [.ref (0 : Nat), .int v] σ = some (some (.int (rSend S v)), σ') ∧ am_pr nsB σ σ' := by
  have hF := h.1
  have hG := sO_G hO
  have e0 : (nI (S 4 0 0) = nI 0) = (S 4 0 0 = 0) := nI_EQ (by omega) (by decide)
  have k0 : nI 0 - nI 10 < nI 0 := by decide +kernel
  have k1 : nI 1 - nI 10 < nI 0 := by decide +kernel
  have k2 : ¬ nI 1 = nI 0 := by decide +kernel
  unfold rSend
  rcases wSend_c v with rfl | rfl | ⟨j, hj, rfl⟩ | ⟨h0, h1, h2, h3⟩
  · rw [if_pos (Or.inl rfl)]
    by_cases hg : S 4 0 0 = 0
    · refine ⟨σ, ?_, am_pr.rf hF⟩
      rw [if_pos hg, s107]
      simp only [s107_0, s107_1, s107_3, s107_4, s107_5, s107_6, s107_9, s107_10, s107_11, s107_14, s107_15, s107_18, s107_19, s107_20, s107_21, s107_24, s107_25, s107_26, s107_29, s107_30, s107_33, s107_35, s107_36, s107_37, s107_40, s107_43, s107_46, s107_48, s107_49, s107_50, s107_53, s107_54, s107_57, s107_58, s107_61, s107_64, s107_65, s107_68, s107_69, s107_72, s107_73, s107_76, s107_77, s107_78, s107_81, s107_82, s107_85, s107_88, s107_91, s107_92, s107_95, s107_98, am_pu_s, am_pu_n, va_rf_s, va_rf_n, Option.bind_some, true_or, or_true, eq_self, if_true, if_false, ite_self, ite_true, ite_false, ↓reduceIte, reduceCtorEq, Nat.reduceEqDiff, Nat.reduceAdd, Nat.reduceLT, Nat.reduceLeDiff, Nat.reduceMul, Nat.reduceSub, not_true_eq_false, not_false_eq_true, and_self, and_true, true_and, and_false, false_and, hF, kd0, kd8, rr0_2, cR_G h, e0, hg, k0]
    · obtain ⟨σ2, e2, hp⟩ := m26 (X := X) (d := d) h hO
      have hp' := hp.1
      refine ⟨σ2, ?_, hp'⟩
      rw [if_neg hg, s107]
      simp only [s107_0, s107_1, s107_3, s107_4, s107_5, s107_6, s107_9, s107_10, s107_11, s107_14, s107_15, s107_18, s107_19, s107_20, s107_21, s107_24, s107_25, s107_26, s107_29, s107_30, s107_33, s107_35, s107_36, s107_37, s107_40, s107_43, s107_46, s107_48, s107_49, s107_50, s107_53, s107_54, s107_57, s107_58, s107_61, s107_64, s107_65, s107_68, s107_69, s107_72, s107_73, s107_76, s107_77, s107_78, s107_81, s107_82, s107_85, s107_88, s107_91, s107_92, s107_95, s107_98, am_pu_s, am_pu_n, va_rf_s, va_rf_n, Option.bind_some, true_or, or_true, eq_self, if_true, if_false, ite_self, ite_true, ite_false, ↓reduceIte, reduceCtorEq, Nat.reduceEqDiff, Nat.reduceAdd, Nat.reduceLT, Nat.reduceLeDiff, Nat.reduceMul, Nat.reduceSub, not_true_eq_false, not_false_eq_true, and_self, and_true, true_and, and_false, false_and, hF, hp'.1, kd0, kd8, kd57, kd54, rr0_2, rr0_4, rr0_6, cR_G h, e0, hg, k0, e2, hp.2.1, nI_c0]
      rfl
  · rw [if_pos (Or.inr (Or.inl rfl))]
    by_cases hg : S 4 0 0 = 0
    · refine ⟨σ, ?_, am_pr.rf hF⟩
      rw [if_pos hg, s107]
      simp only [s107_0, s107_1, s107_3, s107_4, s107_5, s107_6, s107_9, s107_10, s107_11, s107_14, s107_15, s107_18, s107_19, s107_20, s107_21, s107_24, s107_25, s107_26, s107_29, s107_30, s107_33, s107_35, s107_36, s107_37, s107_40, s107_43, s107_46, s107_48, s107_49, s107_50, s107_53, s107_54, s107_57, s107_58, s107_61, s107_64, s107_65, s107_68, s107_69, s107_72, s107_73, s107_76, s107_77, s107_78, s107_81, s107_82, s107_85, s107_88, s107_91, s107_92, s107_95, s107_98, am_pu_s, am_pu_n, va_rf_s, va_rf_n, Option.bind_some, true_or, or_true, eq_self, if_true, if_false, ite_self, ite_true, ite_false, ↓reduceIte, reduceCtorEq, Nat.reduceEqDiff, Nat.reduceAdd, Nat.reduceLT, Nat.reduceLeDiff, Nat.reduceMul, Nat.reduceSub, not_true_eq_false, not_false_eq_true, and_self, and_true, true_and, and_false, false_and, hF, kd0, kd8, rr0_2, cR_G h, e0, hg, k1, k2]
    · obtain ⟨σ2, e2, hp⟩ := m26 (X := X) (d := d) h hO
      have hp' := hp.1
      refine ⟨σ2, ?_, hp'⟩
      rw [if_neg hg, s107]
      simp only [s107_0, s107_1, s107_3, s107_4, s107_5, s107_6, s107_9, s107_10, s107_11, s107_14, s107_15, s107_18, s107_19, s107_20, s107_21, s107_24, s107_25, s107_26, s107_29, s107_30, s107_33, s107_35, s107_36, s107_37, s107_40, s107_43, s107_46, s107_48, s107_49, s107_50, s107_53, s107_54, s107_57, s107_58, s107_61, s107_64, s107_65, s107_68, s107_69, s107_72, s107_73, s107_76, s107_77, s107_78, s107_81, s107_82, s107_85, s107_88, s107_91, s107_92, s107_95, s107_98, am_pu_s, am_pu_n, va_rf_s, va_rf_n, Option.bind_some, true_or, or_true, eq_self, if_true, if_false, ite_self, ite_true, ite_false, ↓reduceIte, reduceCtorEq, Nat.reduceEqDiff, Nat.reduceAdd, Nat.reduceLT, Nat.reduceLeDiff, Nat.reduceMul, Nat.reduceSub, not_true_eq_false, not_false_eq_true, and_self, and_true, true_and, and_false, false_and, hF, hp'.1, kd0, kd8, kd57, kd54, rr0_2, rr0_4, rr0_6, cR_G h, e0, hg, k1, k2, e2, hp.2.2.1, nI_cl (show 1 < 2147483648 by decide)]
      rfl
  · have a1 : nI 10 ≤ nI (10 + j) ∧ nI (10 + j) ≤ nI 13 := ⟨nI_le (by omega) (by omega), nI_le (by omega) (by decide)⟩
    have a2 : nI (10 + j) - nI 10 = nI j := by rw [pk_sub (by omega), show 10 + j - 10 = j by omega]
    have a3 : ¬ nI j < nI 0 := nI_pos (by omega)
    have a4 : ¬ nI 4 ≤ nI j := nI_ge (by omega) (by decide)
    have a5 : ¬ nI (10 + j) = nI 0 := by rw [nI_EQ (by omega) (by decide)]; omega
    have a6 : ¬ nI (10 + j) = nI 1 := by rw [nI_EQ (by omega) (by decide)]; omega
    rw [if_pos (Or.inr (Or.inr a1))]
    by_cases hg : S 4 0 0 = 0
    · refine ⟨σ, ?_, am_pr.rf hF⟩
      rw [if_pos hg, s107]
      simp only [s107_0, s107_1, s107_3, s107_4, s107_5, s107_6, s107_9, s107_10, s107_11, s107_14, s107_15, s107_18, s107_19, s107_20, s107_21, s107_24, s107_25, s107_26, s107_29, s107_30, s107_33, s107_35, s107_36, s107_37, s107_40, s107_43, s107_46, s107_48, s107_49, s107_50, s107_53, s107_54, s107_57, s107_58, s107_61, s107_64, s107_65, s107_68, s107_69, s107_72, s107_73, s107_76, s107_77, s107_78, s107_81, s107_82, s107_85, s107_88, s107_91, s107_92, s107_95, s107_98, am_pu_s, am_pu_n, va_rf_s, va_rf_n, Option.bind_some, true_or, or_true, eq_self, if_true, if_false, ite_self, ite_true, ite_false, ↓reduceIte, reduceCtorEq, Nat.reduceEqDiff, Nat.reduceAdd, Nat.reduceLT, Nat.reduceLeDiff, Nat.reduceMul, Nat.reduceSub, not_true_eq_false, not_false_eq_true, and_self, and_true, true_and, and_false, false_and, hF, kd0, kd8, rr0_2, cR_G h, e0, hg, a2, a3, a4, a5, a6, k2]
    · obtain ⟨σ2, e2, hp⟩ := m26 (X := X) (d := d) h hO
      have hp' := hp.1
      refine ⟨σ2, ?_, hp'⟩
      have e3 := hp.2.2.2 j hj
      have e4 : rSn S (10 + j) = wM (sD S (sSe S).2.2 j) := by
        unfold rSn
        rw [if_neg (by omega), if_neg (by omega), show 10 + j - 10 = j by omega]
      rw [if_neg hg, s107, nI_cl (show 10 + j < 2147483648 by omega), e4]
      simp only [s107_0, s107_1, s107_3, s107_4, s107_5, s107_6, s107_9, s107_10, s107_11, s107_14, s107_15, s107_18, s107_19, s107_20, s107_21, s107_24, s107_25, s107_26, s107_29, s107_30, s107_33, s107_35, s107_36, s107_37, s107_40, s107_43, s107_46, s107_48, s107_49, s107_50, s107_53, s107_54, s107_57, s107_58, s107_61, s107_64, s107_65, s107_68, s107_69, s107_72, s107_73, s107_76, s107_77, s107_78, s107_81, s107_82, s107_85, s107_88, s107_91, s107_92, s107_95, s107_98, am_pu_s, am_pu_n, va_rf_s, va_rf_n, Option.bind_some, true_or, or_true, eq_self, if_true, if_false, ite_self, ite_true, ite_false, ↓reduceIte, reduceCtorEq, Nat.reduceEqDiff, Nat.reduceAdd, Nat.reduceLT, Nat.reduceLeDiff, Nat.reduceMul, Nat.reduceSub, not_true_eq_false, not_false_eq_true, and_self, and_true, true_and, and_false, false_and, hF, hp'.1, kd0, kd8, kd57, kd54, rr0_2, rr0_4, rr0_6, cR_G h, e0, hg, a2, a3, a4, a5, a6, k2, e2, m27 hp'.1 hj, e3]
  · refine ⟨σ, ?_, am_pr.rf hF⟩
    rw [if_neg (by rintro (q | q | q); exact h0 q; exact h1 q; exact h2 q), s107]
    rcases h3 with h3 | h3
    · simp only [s107_0, s107_1, s107_3, s107_4, s107_5, s107_6, s107_9, s107_10, s107_11, s107_14, s107_15, s107_18, s107_19, s107_20, s107_21, s107_24, s107_25, s107_26, s107_29, s107_30, s107_33, s107_35, s107_36, s107_37, s107_40, s107_43, s107_46, s107_48, s107_49, s107_50, s107_53, s107_54, s107_57, s107_58, s107_61, s107_64, s107_65, s107_68, s107_69, s107_72, s107_73, s107_76, s107_77, s107_78, s107_81, s107_82, s107_85, s107_88, s107_91, s107_92, s107_95, s107_98, am_pu_s, am_pu_n, va_rf_s, va_rf_n, Option.bind_some, true_or, or_true, eq_self, if_true, if_false, ite_self, ite_true, ite_false, ↓reduceIte, reduceCtorEq, Nat.reduceEqDiff, Nat.reduceAdd, Nat.reduceLT, Nat.reduceLeDiff, Nat.reduceMul, Nat.reduceSub, not_true_eq_false, not_false_eq_true, and_self, and_true, true_and, and_false, false_and, h0, h1, h3]
    · by_cases h4 : v - nI 10 < nI 0
      · simp only [s107_0, s107_1, s107_3, s107_4, s107_5, s107_6, s107_9, s107_10, s107_11, s107_14, s107_15, s107_18, s107_19, s107_20, s107_21, s107_24, s107_25, s107_26, s107_29, s107_30, s107_33, s107_35, s107_36, s107_37, s107_40, s107_43, s107_46, s107_48, s107_49, s107_50, s107_53, s107_54, s107_57, s107_58, s107_61, s107_64, s107_65, s107_68, s107_69, s107_72, s107_73, s107_76, s107_77, s107_78, s107_81, s107_82, s107_85, s107_88, s107_91, s107_92, s107_95, s107_98, am_pu_s, am_pu_n, va_rf_s, va_rf_n, Option.bind_some, true_or, or_true, eq_self, if_true, if_false, ite_self, ite_true, ite_false, ↓reduceIte, reduceCtorEq, Nat.reduceEqDiff, Nat.reduceAdd, Nat.reduceLT, Nat.reduceLeDiff, Nat.reduceMul, Nat.reduceSub, not_true_eq_false, not_false_eq_true, and_self, and_true, true_and, and_false, false_and, h0, h1, h4]
      · simp only [s107_0, s107_1, s107_3, s107_4, s107_5, s107_6, s107_9, s107_10, s107_11, s107_14, s107_15, s107_18, s107_19, s107_20, s107_21, s107_24, s107_25, s107_26, s107_29, s107_30, s107_33, s107_35, s107_36, s107_37, s107_40, s107_43, s107_46, s107_48, s107_49, s107_50, s107_53, s107_54, s107_57, s107_58, s107_61, s107_64, s107_65, s107_68, s107_69, s107_72, s107_73, s107_76, s107_77, s107_78, s107_81, s107_82, s107_85, s107_88, s107_91, s107_92, s107_95, s107_98, am_pu_s, am_pu_n, va_rf_s, va_rf_n, Option.bind_some, true_or, or_true, eq_self, if_true, if_false, ite_self, ite_true, ite_false, ↓reduceIte, reduceCtorEq, Nat.reduceEqDiff, Nat.reduceAdd, Nat.reduceLT, Nat.reduceLeDiff, Nat.reduceMul, Nat.reduceSub, not_true_eq_false, not_false_eq_true, and_self, and_true, true_and, and_false, false_and, h0, h1, h3, h4]
end SM
