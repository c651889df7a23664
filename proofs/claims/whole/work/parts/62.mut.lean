/-! calls that change the state: what stays -/
theorem cWld_S {σ : am_M} {o c : Nat} {S S' : am_St} (e : ∀ i, c ≤ i → i < c + 14 → S' i = S i) (h : cWld σ o S c) : cWld σ o S' c := by
  unfold cWld at *
  rw [e (c + 4) (by omega) (by omega), e (c + 1) (by omega) (by omega), e c (by omega) (by omega), e (c + 3) (by omega) (by omega), e (c + 2) (by omega) (by omega), e (c + 5) (by omega) (by omega), e (c + 6) (by omega) (by omega), e (c + 7) (by omega) (by omega), e (c + 8) (by omega) (by omega), e (c + 9) (by omega) (by omega), e (c + 10) (by omega) (by omega), e (c + 11) (by omega) (by omega), e (c + 12) (by omega) (by omega), e (c + 13) (by omega) (by omega)]
  exact h
theorem mWld_S {σ : am_M} {oB oN oD oT oWd oPa oOw oWn oG oP oV c : Nat} {S S' : am_St} (e : ∀ i, c ≤ i → i < c + 14 → S' i = S i) (h : mWld σ oB oN oD oT oWd oPa oOw oWn oG oP oV S c) : mWld σ oB oN oD oT oWd oPa oOw oWn oG oP oV S' c := by
  unfold mWld at *
  rw [e (c + 1) (by omega) (by omega), e c (by omega) (by omega), e (c + 3) (by omega) (by omega), e (c + 2) (by omega) (by omega), e (c + 6) (by omega) (by omega), e (c + 7) (by omega) (by omega), e (c + 8) (by omega) (by omega), e (c + 9) (by omega) (by omega), e (c + 11) (by omega) (by omega), e (c + 12) (by omega) (by omega), e (c + 13) (by omega) (by omega)]
  exact h
theorem wOK_S {c : Nat} {S S' : am_St} (e : ∀ i, c ≤ i → i < c + 14 → S' i = S i) (h : wOK S c) : wOK S' c := by
  unfold wOK at *
  rw [e (c + 4) (by omega) (by omega), e (c + 1) (by omega) (by omega), e c (by omega) (by omega), e (c + 3) (by omega) (by omega), e (c + 2) (by omega) (by omega), e (c + 5) (by omega) (by omega), e (c + 6) (by omega) (by omega), e (c + 7) (by omega) (by omega), e (c + 10) (by omega) (by omega), e (c + 11) (by omega) (by omega), e (c + 12) (by omega) (by omega), e (c + 13) (by omega) (by omega)]
  exact h
section MU
variable {X : am_X} {d N : Nat} {σ σ' : am_M} {S S' : am_St} {v w : Int32}
theorem cRep_K (h : cRep S σ) (e : ∀ i, 18 ≤ i → S' i = S i) (m : ∀ a k, 31 ≤ a → a ≤ 53 → am_I σ' a k = am_I σ a k) : S' 18 0 0 = 1 → cWld σ' 31 S' 20 := fun q => cWld_S (fun i q1 _ => e i (by omega)) ((h.2.2.1 (by rw [← e 18 (by omega)]; exact q)).pr fun a k q1 q2 => m a k q1 (by omega))
theorem mRep_K (h : mRep S σ) (e : ∀ i, 18 ≤ i → S' i = S i) (e16 : S' 16 = S 16) (m : ∀ a k, 89 ≤ a → am_I σ' a k = am_I σ a k) (m42 : am_I σ' 66 42 = am_I σ 66 42) (m43 : am_I σ' 66 43 = am_I σ 66 43) (m44 : am_I σ' 66 44 = am_I σ 66 44) : (S' 18 0 0 = 1 → mWld σ' 89 90 91 92 93 94 95 96 97 98 99 S' 20 ∧ am_I σ' 66 42 = nI 1 ∧ am_I σ' 66 43 = nI (S' 16 0 0) ∧ am_I σ' 66 44 = nI (S' 30 0 0)) ∧ (¬ S' 18 0 0 = 1 → am_I σ' 66 42 = nI 0 ∨ (am_I σ' 66 42 = nI 1 ∧ ∃ r, r < S' 16 0 0 ∧ am_I σ' 66 43 = nI r)) := by
  obtain ⟨_, _, _, _, _, _, _, _, h9, h10⟩ := h
  have e18 := e 18 (by omega)
  rw [e18, e16, m42, m43, m44, e 30 (by omega)]
  refine ⟨fun q => ?_, h10⟩
  obtain ⟨a1, a2, a3, a4⟩ := h9 q
  exact ⟨mWld_S (fun i q1 _ => e i (by omega)) (a1.pr fun a k ha => m a k (by simp at ha; omega)), a2, a3, a4⟩
theorem sOK_K (h : sOK N S) (e : ∀ i, 18 ≤ i → S' i = S i) (e4 : S' 4 = S 4) (e5 : S' 5 = S 5) : S' 18 0 0 ≤ 1 ∧ (S' 18 0 0 = 1 → wOK S' 20 ∧ S' 24 0 0 = S' 4 0 0 ∧ ∀ g, g < 4 → S' 25 g 0 = S' 5 g 0) := by
  obtain ⟨_, _, _, h4, h5⟩ := h
  rw [e 18 (by omega), e4, e5, e 24 (by omega), e 25 (by omega)]
  refine ⟨h4, fun q => ?_⟩
  obtain ⟨a1, a2, a3⟩ := h5 q
  exact ⟨wOK_S (fun i q1 _ => e i (by omega)) a1, a2, a3⟩
theorem am_pi.wM {σ1 : am_M} {P : Nat → Nat → Bool} {o k : Nat} {v : Int32} (h1 : am_pi P σ σ1) (h : P o k = false) : am_pi P σ (am_wI σ1 o k v) := h1.w h
/-! letter -/
def sLet (S : am_St) (c : Nat) : am_St := fun x y z => if x = 14 ∧ y = 0 ∧ z = 0 then S 14 0 0 + 1 else if x = 15 ∧ y = S 14 0 0 ∧ z = 0 then c else S x y z
theorem sLet_o (S : am_St) (c : Nat) {i : Nat} (h : ¬ i = 14) (h' : ¬ i = 15) : sLet S c i = S i := by
  funext y z
  show (if i = 14 ∧ y = 0 ∧ z = 0 then S 14 0 0 + 1 else if i = 15 ∧ y = S 14 0 0 ∧ z = 0 then c else S i y z) = _
  rw [if_neg (fun q => h q.1), if_neg (fun q => h' q.1)]
theorem sLet_15 (S : am_St) (c j : Nat) : sLet S c 15 j 0 = if j = S 14 0 0 then c else S 15 j 0 := by
  show (if 15 = 14 ∧ j = 0 ∧ 0 = 0 then S 14 0 0 + 1 else if 15 = 15 ∧ j = S 14 0 0 ∧ 0 = 0 then c else S 15 j 0) = _
  rw [if_neg (fun q => absurd q.1 (by decide))]
  by_cases h : j = S 14 0 0
  · rw [if_pos ⟨rfl, h, rfl⟩, if_pos h]
  · rw [if_neg (fun q => h q.2.1), if_neg h]
def oLet (S : am_St) (v : Int32) : Int32 × am_St := if v < nI 32 ∨ nI 126 < v then (-102, S) else if S 14 0 0 = 40 then (-104, S) else (nI (S 14 0 0 + 1), sLet S v.toNatClampNeg)
theorem oLet_ok (h : sOK N S) : sOK (N + 1) (oLet S v).2 := by
  have hL := sO_L h
  have up : sOK (N + 1) S := ⟨h.1, h.2.1, by have := h.2.2.1; omega, h.2.2.2⟩
  unfold oLet
  by_cases c1 : v < nI 32 ∨ nI 126 < v
  · rw [if_pos c1]; exact up
  · rw [if_neg c1]
    by_cases c2 : S 14 0 0 = 40
    · rw [if_pos c2]; exact up
    · rw [if_neg c2]
      obtain ⟨s, hs, rfl⟩ := i32_nn (w := v) (fun q => c1 (Or.inl (Int32.lt_trans q (nI_lt (show 0 < 32 by decide) (by decide)))))
      have s1 : 32 ≤ s := by
        by_cases q : 32 ≤ s
        · exact q
        · exact absurd (Or.inl (nI_lt (show s < 32 by omega) (by decide))) c1
      have s2 : s ≤ 126 := by
        by_cases q : s ≤ 126
        · exact q
        · exact absurd (Or.inr (nI_lt (show 126 < s by omega) (by omega))) c1
      rw [nI_cl (by omega)]
      refine ⟨wOK_S (fun i _ q => sLet_o S s (by omega) (by omega)) up.1, ⟨show S 14 0 0 + 1 ≤ 40 by omega, fun j hj => ?_⟩, up.2.2.1, sOK_K (S' := sLet S s) up (fun i q => sLet_o S s (by omega) (by omega)) (sLet_o S s (by omega) (by omega)) (sLet_o S s (by omega) (by omega))⟩
      have hj' : j < S 14 0 0 + 1 := hj
      show 32 ≤ sLet S s 15 j 0 ∧ sLet S s 15 j 0 ≤ 126
      rw [sLet_15]
      by_cases e : j = S 14 0 0
      · rw [if_pos e]; exact ⟨s1, s2⟩
      · rw [if_neg e]; exact sO_P h (by omega)
theorem c86 (h : cRep S σ) (hO : sOK N S) : ∃ σ', am_v X (d + 2) 86 [.ref (0 : Nat), .int v] σ = some (some (.int (oLet S v).1), σ') ∧ cRep (oLet S v).2 σ' ∧ am_pi nsM σ σ' := by
  have hF := h.1
  have hL := sO_L hO
  unfold oLet
  rw [s86]
  by_cases c1 : v < nI 32
  · rw [if_pos (Or.inl c1)]
    refine ⟨σ, ?_, h, am_pi.rf hF⟩
    simp only [s86_0, s86_1, s86_3, s86_6, s86_7, s86_9, s86_12, s86_14, s86_15, s86_16, s86_19, s86_20, s86_23, s86_26, s86_27, s86_30, s86_33, s86_36, s86_38, am_pu_s, am_pu_n, va_rf_s, va_rf_n, Option.bind_some, true_or, or_true, eq_self, if_true, if_false, ite_self, ite_true, ite_false, ↓reduceIte, reduceCtorEq, Nat.reduceEqDiff, Nat.reduceAdd, Nat.reduceLT, Nat.reduceLeDiff, Nat.reduceMul, Nat.reduceSub, not_true_eq_false, not_false_eq_true, and_self, and_true, true_and, and_false, false_and, c1]
  by_cases c2 : nI 126 < v
  · rw [if_pos (Or.inr c2)]
    refine ⟨σ, ?_, h, am_pi.rf hF⟩
    have c2' : ¬ v ≤ nI 126 := Int32.not_le.mpr c2
    simp only [s86_0, s86_1, s86_3, s86_6, s86_7, s86_9, s86_12, s86_14, s86_15, s86_16, s86_19, s86_20, s86_23, s86_26, s86_27, s86_30, s86_33, s86_36, s86_38, am_pu_s, am_pu_n, va_rf_s, va_rf_n, Option.bind_some, true_or, or_true, eq_self, if_true, if_false, ite_self, ite_true, ite_false, ↓reduceIte, reduceCtorEq, Nat.reduceEqDiff, Nat.reduceAdd, Nat.reduceLT, Nat.reduceLeDiff, Nat.reduceMul, Nat.reduceSub, not_true_eq_false, not_false_eq_true, and_self, and_true, true_and, and_false, false_and, c1, c2']
  have c2' : v ≤ nI 126 := Int32.not_lt.mp c2
  rw [if_neg (by rintro (q | q); exact c1 q; exact c2 q)]
  have e22 := m22 (X := X) (d := d) (σ := σ) (c := v) hF (cR_L h) hL
  by_cases c3 : S 14 0 0 = 40
  · rw [if_pos c3]
    rw [if_neg (by omega)] at e22
    refine ⟨σ, ?_, h, am_pi.rf hF⟩
    simp only [s86_0, s86_1, s86_3, s86_6, s86_7, s86_9, s86_12, s86_14, s86_15, s86_16, s86_19, s86_20, s86_23, s86_26, s86_27, s86_30, s86_33, s86_36, s86_38, am_pu_s, am_pu_n, va_rf_s, va_rf_n, Option.bind_some, true_or, or_true, eq_self, if_true, if_false, ite_self, ite_true, ite_false, ↓reduceIte, reduceCtorEq, Nat.reduceEqDiff, Nat.reduceAdd, Nat.reduceLT, Nat.reduceLeDiff, Nat.reduceMul, Nat.reduceSub, not_true_eq_false, not_false_eq_true, and_self, and_true, true_and, and_false, false_and, c1, c2', hF, kd0, kd1, rr0_0, e22]
  · rw [if_neg c3]
    rw [if_pos (by omega)] at e22
    obtain ⟨s, hs, rfl⟩ := i32_nn (w := v) (fun q => c1 (Int32.lt_trans q (nI_lt (show 0 < 32 by decide) (by decide))))
    rw [nI_cl (by omega)]
    refine ⟨am_wI (am_wI σ 2 (S 14 0 0) (nI s)) 1 1 (nI (S 14 0 0 + 1)), ?_, ⟨hF, cWld_S (fun i _ q => sLet_o S s (by omega) (by omega)) (h.2.1.pr fun a k q1 q2 => ?_), cRep_K h (fun i q => sLet_o S s (by omega) (by omega)) (fun a k q1 q2 => ?_), ⟨?_, fun j hj => ?_⟩, fun g hg => ?_, ?_, ?_, ?_⟩, ((am_pi.rf hF).w (by rfl)).w (by rfl)⟩
    · simp only [s86_0, s86_1, s86_3, s86_6, s86_7, s86_9, s86_12, s86_14, s86_15, s86_16, s86_19, s86_20, s86_23, s86_26, s86_27, s86_30, s86_33, s86_36, s86_38, am_pu_s, am_pu_n, va_rf_s, va_rf_n, Option.bind_some, true_or, or_true, eq_self, if_true, if_false, ite_self, ite_true, ite_false, ↓reduceIte, reduceCtorEq, Nat.reduceEqDiff, Nat.reduceAdd, Nat.reduceLT, Nat.reduceLeDiff, Nat.reduceMul, Nat.reduceSub, not_true_eq_false, not_false_eq_true, and_self, and_true, true_and, and_false, false_and, am_I_wI, am_I_wJ, am_J_wI, am_J_wJ, am_R_wI, am_R_wJ, am_kd_wI, am_kd_wJ, am_ln_wI, am_ln_wJ, am_ix_wI, am_ix_wJ, am_F_wI, am_F_wJ, am_I_wC, am_J_wC, am_R_wC, am_kd_wC, am_ln_wC, am_ix_wC, am_F_wC, c1, c2', hF, kd0, kd1, rr0_0, e22, nI_10]
    · rw [am_I_wI, if_neg (by omega), am_I_wI, if_neg (by omega)]
    · rw [am_I_wI, if_neg (by omega), am_I_wI, if_neg (by omega)]
    · rw [am_I_wI, if_pos ⟨rfl, rfl⟩]; rfl
    · have hj' : j < S 14 0 0 + 1 := hj
      show _ = nI (sLet S s 15 j 0)
      rw [sLet_15, am_I_wI, if_neg (by omega), am_I_wI]
      by_cases e : j = S 14 0 0
      · rw [if_pos ⟨rfl, e⟩, if_pos e]
      · rw [if_neg (fun q => e q.2), if_neg e]
        exact cR_P h (by omega)
    · rw [am_I_wI, if_neg (by omega), am_I_wI, if_neg (by omega)]; exact cR_no h hg
    · rw [am_I_wI, if_neg (by omega), am_I_wI, if_neg (by omega)]; exact h.2.2.2.2.2.1
    · rw [am_I_wI, if_neg (by omega), am_I_wI, if_neg (by omega)]; exact h.2.2.2.2.2.2.1
    · rw [am_I_wI, if_neg (by omega), am_I_wI, if_neg (by omega)]; exact h.2.2.2.2.2.2.2
theorem by_nI : ∀ n, n < 127 → vp_nar .byte (nI n).toInt8.toInt32 = nI n := by decide +kernel
theorem c130 (h : mRep S σ) (hO : sOK N S) : ∃ σ', am_v X (d + 2) 130 [.ref (66 : Nat), .int v] σ = some (some (.int (oLet S v).1), σ') ∧ mRep (oLet S v).2 σ' ∧ am_pi nsC σ σ' := by
  have hF := h.1
  have hL := sO_L hO
  unfold oLet
  rw [s130]
  by_cases c1 : v < nI 32 ∨ nI 126 < v
  · rw [if_pos c1]
    have hb : ¬ (nI 32 ≤ v ∧ v ≤ nI 126) := fun q => by
      rcases c1 with c1 | c1
      · exact Int32.not_le.mpr c1 q.1
      · exact Int32.not_le.mpr c1 q.2
    refine ⟨σ, ?_, h, am_pi.rf hF⟩
    simp only [s130_0, s130_1, s130_3, s130_5, s130_8, s130_11, s130_13, s130_14, s130_15, s130_18, s130_20, s130_23, s130_25, s130_26, s130_27, s130_30, s130_31, s130_34, s130_35, s130_36, s130_37, s130_38, s130_39, s130_42, s130_43, s130_44, s130_47, s130_48, s130_51, am_pu_s, am_pu_n, va_rf_s, va_rf_n, Option.bind_some, true_or, or_true, eq_self, if_true, if_false, ite_self, ite_true, ite_false, ↓reduceIte, reduceCtorEq, Nat.reduceEqDiff, Nat.reduceAdd, Nat.reduceLT, Nat.reduceLeDiff, Nat.reduceMul, Nat.reduceSub, not_true_eq_false, not_false_eq_true, and_self, and_true, true_and, and_false, false_and, m124, bI_f hb]
  rw [if_neg c1]
  have hb : nI 32 ≤ v ∧ v ≤ nI 126 := ⟨Int32.not_lt.mp fun q => c1 (Or.inl q), Int32.not_lt.mp fun q => c1 (Or.inr q)⟩
  have e40 : (nI (S 14 0 0) = nI 40) = (S 14 0 0 = 40) := nI_EQ (by omega) (by decide)
  by_cases c3 : S 14 0 0 = 40
  · rw [if_pos c3]
    have t : (nI (S 14 0 0) = nI 40) = True := by rw [e40]; exact eq_true c3
    refine ⟨σ, ?_, h, am_pi.rf hF⟩
    simp only [s130_0, s130_1, s130_3, s130_5, s130_8, s130_11, s130_13, s130_14, s130_15, s130_18, s130_20, s130_23, s130_25, s130_26, s130_27, s130_30, s130_31, s130_34, s130_35, s130_36, s130_37, s130_38, s130_39, s130_42, s130_43, s130_44, s130_47, s130_48, s130_51, am_pu_s, am_pu_n, va_rf_s, va_rf_n, Option.bind_some, true_or, or_true, eq_self, if_true, if_false, ite_self, ite_true, ite_false, ↓reduceIte, reduceCtorEq, Nat.reduceEqDiff, Nat.reduceAdd, Nat.reduceLT, Nat.reduceLeDiff, Nat.reduceMul, Nat.reduceSub, not_true_eq_false, not_false_eq_true, and_self, and_true, true_and, and_false, false_and, m124, bI_t hb, nI_10, hF, kd66, mR_L h, t]
  · rw [if_neg c3]
    have t : ¬ nI (S 14 0 0) = nI 40 := by rw [e40]; exact c3
    obtain ⟨s, hs, rfl⟩ := i32_nn (w := v) (fun q => c1 (Or.inl (Int32.lt_trans q (nI_lt (show 0 < 32 by decide) (by decide)))))
    have s2 : s ≤ 126 := (nI_leI hs (by decide)).mp hb.2
    rw [nI_cl (by omega)]
    have hk := mRep_K (S' := sLet S s) (σ' := am_wI (am_wI σ 79 (S 14 0 0) (nI s)) 66 16 (nI (S 14 0 0 + 1))) h (fun i q => sLet_o S s (by omega) (by omega)) (sLet_o S s (by omega) (by omega)) (fun a k q => by rw [am_I_wI, if_neg (by omega), am_I_wI, if_neg (by omega)]) (by rw [am_I_wI, if_neg (by omega), am_I_wI, if_neg (by omega)]) (by rw [am_I_wI, if_neg (by omega), am_I_wI, if_neg (by omega)]) (by rw [am_I_wI, if_neg (by omega), am_I_wI, if_neg (by omega)])
    obtain ⟨_, h2, h3, h4, h5, h6, h7, h8, _, _⟩ := h
    refine ⟨am_wI (am_wI σ 79 (S 14 0 0) (nI s)) 66 16 (nI (S 14 0 0 + 1)), ?_, ⟨hF, mWld_S (fun i _ q => sLet_o S s (by omega) (by omega)) (h2.pr fun a k ha => ?_), fun g hg => ?_, ?_, ?_, ⟨?_, fun j hj => ?_⟩, ?_, ?_, hk.1, hk.2⟩, ((am_pi.rf hF).w (by rfl)).w (by rfl)⟩
    · simp only [s130_0, s130_1, s130_3, s130_5, s130_8, s130_11, s130_13, s130_14, s130_15, s130_18, s130_20, s130_23, s130_25, s130_26, s130_27, s130_30, s130_31, s130_34, s130_35, s130_36, s130_37, s130_38, s130_39, s130_42, s130_43, s130_44, s130_47, s130_48, s130_51, am_pu_s, am_pu_n, va_rf_s, va_rf_n, Option.bind_some, true_or, or_true, eq_self, if_true, if_false, ite_self, ite_true, ite_false, ↓reduceIte, reduceCtorEq, Nat.reduceEqDiff, Nat.reduceAdd, Nat.reduceLT, Nat.reduceLeDiff, Nat.reduceMul, Nat.reduceSub, not_true_eq_false, not_false_eq_true, and_self, and_true, true_and, and_false, false_and, am_I_wI, am_I_wJ, am_J_wI, am_J_wJ, am_R_wI, am_R_wJ, am_kd_wI, am_kd_wJ, am_ln_wI, am_ln_wJ, am_ix_wI, am_ix_wJ, am_F_wI, am_F_wJ, am_I_wC, am_J_wC, am_R_wC, am_kd_wC, am_ln_wC, am_ix_wC, am_F_wC, m124, bI_t hb, nI_10, hF, kd66, rr66_17, h6.1, t, ix79 hF (show S 14 0 0 < 40 by omega), nI_cl (show S 14 0 0 < 2147483648 by omega), by_nI s (by omega), nI_add]
    · simp at ha
      rw [am_I_wI, if_neg (by omega), am_I_wI, if_neg (by omega)]
    · rw [am_I_wI, if_neg (by omega), am_I_wI, if_neg (by omega)]; exact h3 g hg
    · rw [am_I_wI, if_neg (by omega), am_I_wI, if_neg (by omega)]; exact h4
    · rw [am_I_wI, if_neg (by omega), am_I_wI, if_neg (by omega)]; exact h5
    · rw [am_I_wI, if_pos ⟨rfl, rfl⟩]; rfl
    · have hj' : j < S 14 0 0 + 1 := hj
      show _ = nI (sLet S s 15 j 0)
      rw [sLet_15, am_I_wI, if_neg (by omega), am_I_wI]
      by_cases e : j = S 14 0 0
      · rw [if_pos ⟨rfl, e⟩, if_pos e]
      · rw [if_neg (fun q => e q.2), if_neg e]
        exact h6.2 j (by omega)
    · rw [am_I_wI, if_neg (by omega), am_I_wI, if_neg (by omega)]; exact h7
    · rw [am_I_wI, if_neg (by omega), am_I_wI, if_neg (by omega)]; exact h8
/-! one number of the state -/
def sU (S : am_St) (i a v : Nat) : am_St := fun x y z => if x = i ∧ y = a ∧ z = 0 then v else S x y z
end MU
