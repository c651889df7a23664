/-! burn, write -/
section MU
variable {X : am_X} {d N : Nat} {σ σ' : am_M} {S S' : am_St} {v w : Int32}
theorem sU_w {S : am_St} {i a v : Nat} (h : ¬ i = 0) (y z : Nat) : sU S i a v 0 y z = S 0 y z := by rw [sU_o S (fun q => h q.symm)]
theorem cRep_me (h : cRep S σ) {b : Nat} (hb : b < 4) : cRep (sMe S b) (am_wI (am_wI (am_wI (am_wI σ (15 + 3 * b + 2) 0 (nI 0)) (15 + 3 * b + 2) 1 (nI 0)) (15 + 3 * b + 2) 2 (nI 0)) (15 + 3 * b + 2) 3 (nI 0)) := cRep_we (cRep_we (cRep_we (cRep_we h hb (by decide)) hb (by decide)) hb (by decide)) hb (by decide)
theorem m49 (h : cRep S σ) {b : Nat} (hb : b < 4) : am_v X (d + 1) 49 [.ref (15 + 3 * b)] σ = some (none, am_wI (am_wI (am_wI (am_wI σ (15 + 3 * b + 2) 0 (nI 0)) (15 + 3 * b + 2) 1 (nI 0)) (15 + 3 * b + 2) 2 (nI 0)) (15 + 3 * b + 2) 3 (nI 0)) := by
  have hF := h.1
  have t0 : ¬ nI 4 ≤ nI 0 := by decide +kernel
  have t1 : ¬ nI 4 ≤ nI 1 := by decide +kernel
  have t2 : ¬ nI 4 ≤ nI 2 := by decide +kernel
  have t3 : ¬ nI 4 ≤ nI 3 := by decide +kernel
  have t4 : nI 4 ≤ nI 4 := by decide +kernel
  have f0 := nI_cl (show 0 < 2147483648 by decide)
  have f1 := nI_cl (show 1 < 2147483648 by decide)
  have f2 := nI_cl (show 2 < 2147483648 by decide)
  have f3 := nI_cl (show 3 < 2147483648 by decide)
  have x0 := ixW hF (isTu8 hb) (show 0 < 4 by decide)
  have x1 := ixW hF (isTu8 hb) (show 1 < 4 by decide)
  have x2 := ixW hF (isTu8 hb) (show 2 < 4 by decide)
  have x3 := ixW hF (isTu8 hb) (show 3 < 4 by decide)
  rw [s49]
  simp only [s49_0, s49_1, s49_2, s49_3, s49_4, s49_7, s49_8, s49_11, s49_12, s49_13, s49_14, s49_17, s49_20, am_pu_s, am_pu_n, va_rf_s, va_rf_n, Option.bind_some, true_or, or_true, eq_self, if_true, if_false, ite_self, ite_true, ite_false, ↓reduceIte, reduceCtorEq, Nat.reduceEqDiff, Nat.reduceAdd, Nat.reduceLT, Nat.reduceLeDiff, Nat.reduceMul, Nat.reduceSub, not_true_eq_false, not_false_eq_true, and_self, and_true, true_and, and_false, false_and, am_I_wI, am_I_wJ, am_J_wI, am_J_wJ, am_R_wI, am_R_wJ, am_kd_wI, am_kd_wJ, am_ln_wI, am_ln_wJ, am_ix_wI, am_ix_wJ, am_F_wI, am_F_wJ, am_I_wC, am_J_wC, am_R_wC, am_kd_wC, am_ln_wC, am_ix_wC, am_F_wC, hF, kdT hF (isTu8 hb), rT1 hF (isTu8 hb), t0, t1, t2, t3, t4, f0, f1, f2, f3, x0, x1, x2, x3, nI_add]
theorem mRep_me (h : mRep S σ) {b : Nat} (hb : b < 4) : mRep (sMe S b) (am_wI (am_wI (am_wI (am_wI σ 75 (4 * b + 0) (nI 0)) 75 (4 * b + 1) (nI 0)) 75 (4 * b + 2) (nI 0)) 75 (4 * b + 3) (nI 0)) := mRep_we (mRep_we (mRep_we (mRep_we h hb (by decide)) hb (by decide)) hb (by decide)) hb (by decide)
theorem m149 (h : mRep S σ) {b : Nat} (hb : b < 4) : am_v X (d + 1) 149 [.ref (66 : Nat), .int (nI b)] σ = some (none, am_wI (am_wI (am_wI (am_wI σ 75 (4 * b + 0) (nI 0)) 75 (4 * b + 1) (nI 0)) 75 (4 * b + 2) (nI 0)) 75 (4 * b + 3) (nI 0)) := by
  have hF := h.1
  have t0 : ¬ nI 4 ≤ nI 0 := by decide +kernel
  have t1 : ¬ nI 4 ≤ nI 1 := by decide +kernel
  have t2 : ¬ nI 4 ≤ nI 2 := by decide +kernel
  have t3 : ¬ nI 4 ≤ nI 3 := by decide +kernel
  have t4 : nI 4 ≤ nI 4 := by decide +kernel
  have f0 := nI_cl (show 4 * b + 0 < 2147483648 by omega)
  have f1 := nI_cl (show 4 * b + 1 < 2147483648 by omega)
  have f2 := nI_cl (show 4 * b + 2 < 2147483648 by omega)
  have f3 := nI_cl (show 4 * b + 3 < 2147483648 by omega)
  have x0 := ix75 hF (show 4 * b + 0 < 16 by omega)
  have x1 := ix75 hF (show 4 * b + 1 < 16 by omega)
  have x2 := ix75 hF (show 4 * b + 2 < 16 by omega)
  have x3 := ix75 hF (show 4 * b + 3 < 16 by omega)
  have y0 : nI 4 * nI b + nI 0 = nI (4 * b + 0) := nI_2W
  have y1 : nI 4 * nI b + nI 1 = nI (4 * b + 1) := nI_2W
  have y2 : nI 4 * nI b + nI 2 = nI (4 * b + 2) := nI_2W
  have y3 : nI 4 * nI b + nI 3 = nI (4 * b + 3) := nI_2W
  have z1 : nI 0 + nI 1 = nI 1 := nI_add 0 1
  have z2 : nI 1 + nI 1 = nI 2 := nI_add 1 1
  have z3 : nI 2 + nI 1 = nI 3 := nI_add 2 1
  have z4 : nI 3 + nI 1 = nI 4 := nI_add 3 1
  rw [s149]
  simp only [s149_0, s149_1, s149_2, s149_3, s149_4, s149_7, s149_8, s149_11, s149_12, s149_13, s149_14, s149_15, s149_16, s149_17, s149_18, s149_21, s149_24, am_pu_s, am_pu_n, va_rf_s, va_rf_n, Option.bind_some, true_or, or_true, eq_self, if_true, if_false, ite_self, ite_true, ite_false, ↓reduceIte, reduceCtorEq, Nat.reduceEqDiff, Nat.reduceAdd, Nat.reduceLT, Nat.reduceLeDiff, Nat.reduceMul, Nat.reduceSub, not_true_eq_false, not_false_eq_true, and_self, and_true, true_and, and_false, false_and, am_I_wI, am_I_wJ, am_J_wI, am_J_wJ, am_R_wI, am_R_wJ, am_kd_wI, am_kd_wJ, am_ln_wI, am_ln_wJ, am_ix_wI, am_ix_wJ, am_F_wI, am_F_wJ, am_I_wC, am_J_wC, am_R_wC, am_kd_wC, am_ln_wC, am_ix_wC, am_F_wC, hF, kd66, rr66_11, t0, t1, t2, t3, t4, y0, y1, y2, y3, f0, f1, f2, f3, x0, x1, x2, x3, z1, z2, z3, z4]
theorem cRep_sd (h : cRep S σ) {b n p : Nat} (hb : b < 4) : cRep (sU (sU S 1 b n) 2 b p) (am_wI (am_wI σ (15 + 3 * b) 2 (nI n)) (15 + 3 * b) 3 (nI p)) := by
  have e : ∀ j, ¬ j = 1 → ¬ j = 2 → sU (sU S 1 b n) 2 b p j = S j := fun j q1 q2 => by rw [sU_o _ q2, sU_o _ q1]
  have e1 : ∀ y, sU (sU S 1 b n) 2 b p 1 y 0 = if y = b then n else S 1 y 0 := fun y => by rw [sU_o _ (by decide), sU_at]
  have e2 : ∀ y, sU (sU S 1 b n) 2 b p 2 y 0 = if y = b then p else S 2 y 0 := fun y => by rw [sU_at, sU_o _ (by decide)]
  refine cRep_n h (fun j q => e j (by omega) (by omega)) h.1 ?_ (fun a k q => by rw [am_I_wI, if_neg (by omega), am_I_wI, if_neg (by omega)])
  obtain ⟨w1, w2, w3, w4⟩ := h.2.1
  refine ⟨?_, fun b' hb' => ⟨⟨?_, fun j hj => ?_, fun g' hg' => ?_⟩, fun q => ?_⟩, fun g' hg' => ?_, ?_, fun j hj => ?_⟩
  · rw [am_I_wI, if_neg (by omega), am_I_wI, if_neg (by omega), e _ (by omega) (by omega)]; exact w1
  · show _ = nI (sU (sU S 1 b n) 2 b p 1 b' 0)
    rw [am_I_wI, if_neg (by omega), am_I_wI, e1]
    by_cases c : b' = b
    · rw [if_pos (by omega), if_pos c]
    · rw [if_neg (by omega), if_neg c]; exact (w2 b' hb').1.1
  · rw [am_I_wI, if_neg (by omega), am_I_wI, if_neg (by omega), e _ (by omega) (by omega)]; exact (w2 b' hb').1.2.1 j hj
  · rw [am_I_wI, if_neg (by omega), am_I_wI, if_neg (by omega), e _ (by omega) (by omega)]; exact (w2 b' hb').1.2.2 g' hg'
  · have q' : 0 < sU (sU S 1 b n) 2 b p 1 b' 0 := q
    show _ = nI (sU (sU S 1 b n) 2 b p 2 b' 0)
    rw [e1] at q'
    rw [am_I_wI, e2]
    by_cases c : b' = b
    · rw [if_pos (by omega), if_pos c]
    · rw [if_neg (by omega), am_I_wI, if_neg (by omega), if_neg c]
      rw [if_neg c] at q'
      exact (w2 b' hb').2 q'
  · rw [e _ (by omega) (by omega), e _ (by omega) (by omega), e _ (by omega) (by omega), e _ (by omega) (by omega), e _ (by omega) (by omega)]
    exact (w3 g' hg').pr fun j => by rw [am_I_wI, if_neg (by omega), am_I_wI, if_neg (by omega)]
  · rw [am_I_wI, if_neg (by omega), am_I_wI, if_neg (by omega), e _ (by omega) (by omega)]; exact w4.1
  · rw [am_I_wI, if_neg (by omega), am_I_wI, if_neg (by omega), am_I_wI, if_neg (by omega), am_I_wI, if_neg (by omega), am_I_wI, if_neg (by omega), am_I_wI, if_neg (by omega), e _ (by omega) (by omega), e _ (by omega) (by omega), e _ (by omega) (by omega)]; exact w4.2 j hj
theorem mRep_sz (h : mRep S σ) {b n p : Nat} (hb : b < 4) (hσ : am_F σ') (h68 : am_I σ' 68 b = nI n) (h69 : 0 < n → am_I σ' 69 b = nI p) (hm : ∀ a k, ¬ ((a = 68 ∨ a = 69) ∧ k = b) → am_I σ' a k = am_I σ a k) : mRep (sU (sU S 1 b n) 2 b p) σ' := by
  have e : ∀ j, ¬ j = 1 → ¬ j = 2 → sU (sU S 1 b n) 2 b p j = S j := fun j q1 q2 => by rw [sU_o _ q2, sU_o _ q1]
  have e1 : ∀ y, sU (sU S 1 b n) 2 b p 1 y 0 = if y = b then n else S 1 y 0 := fun y => by rw [sU_o _ (by decide), sU_at]
  have e2 : ∀ y, sU (sU S 1 b n) 2 b p 2 y 0 = if y = b then p else S 2 y 0 := fun y => by rw [sU_at, sU_o _ (by decide)]
  refine mRep_n h (fun j q => e j (by omega) (by omega)) (e _ (by omega) (by omega)) (e _ (by omega) (by omega)) hσ ?_ (by rw [hm _ _ (by omega), e _ (by omega) (by omega)]; exact mR_sn h) (fun a k q => hm a k (by omega))
  obtain ⟨w1, w2, w3⟩ := h.2.1
  refine ⟨fun b' hb' => ?_, fun g' hg' => ?_, fun j hj => ?_⟩
  · obtain ⟨a1, a2, a3, a4⟩ := w1 b' hb'
    refine ⟨fun j hj => by rw [hm _ _ (by omega), e _ (by omega) (by omega)]; exact a1 j hj, ?_, fun q => ?_, fun g' hg' => by rw [hm _ _ (by omega), e _ (by omega) (by omega)]; exact a4 g' hg'⟩
    · show _ = nI (sU (sU S 1 b n) 2 b p 1 b' 0)
      rw [e1]
      by_cases c : b' = b
      · rw [if_pos c, c]; exact h68
      · rw [if_neg c, hm _ _ (by omega)]; exact a2
    · have q' : 0 < sU (sU S 1 b n) 2 b p 1 b' 0 := q
      show _ = nI (sU (sU S 1 b n) 2 b p 2 b' 0)
      rw [e1] at q'
      rw [e2]
      by_cases c : b' = b
      · rw [if_pos c] at q'
        rw [if_pos c, c]; exact h69 q'
      · rw [if_neg c] at q'
        rw [if_neg c, hm _ _ (by omega)]; exact a3 q'
  · rw [hm _ _ (by omega), hm _ _ (by omega), hm _ _ (by omega), hm _ _ (by omega), e _ (by omega) (by omega), e _ (by omega) (by omega), e _ (by omega) (by omega), e _ (by omega) (by omega)]
    exact w2 g' hg'
  · rw [hm _ _ (by omega), hm _ _ (by omega), hm _ _ (by omega), e _ (by omega) (by omega), e _ (by omega) (by omega), e _ (by omega) (by omega)]
    exact w3 j hj
theorem sOK_sd (h : sOK N S) {b n p : Nat} (hn : n ≤ 60) (hp : p ≤ 40) : sOK N (sU (sU S 1 b n) 2 b p) := by
  have e : ∀ j, ¬ j = 1 → ¬ j = 2 → sU (sU S 1 b n) 2 b p j = S j := fun j q1 q2 => by rw [sU_o _ q2, sU_o _ q1]
  refine sOK_m h (fun j q => e j (by omega) (by omega)) (e _ (by omega) (by omega)) (e _ (by omega) (by omega)) ?_
  obtain ⟨w1, w2, w3, w4, w5⟩ := h.1
  refine ⟨fun b' hb' => ?_, ?_, fun g' hg' => ?_, ?_, fun j hj => ?_⟩
  · obtain ⟨a1, a2, a3, a4⟩ := w1 b' hb'
    refine ⟨?_, ?_, ?_, ?_⟩
    · show sU (sU S 1 b n) 2 b p 1 b' 0 ≤ 60
      rw [sU_o _ (by decide), sU_at]
      split
      · exact hn
      · exact a1
    · rw [e _ (by omega) (by omega)]; exact a2
    · show sU (sU S 1 b n) 2 b p 2 b' 0 ≤ 40
      rw [sU_at, sU_o _ (by decide)]
      split
      · exact hp
      · exact a3
    · rw [e _ (by omega) (by omega)]; exact a4
  · rw [e _ (by omega) (by omega)]; exact w2
  · rw [e _ (by omega) (by omega), e _ (by omega) (by omega), e _ (by omega) (by omega)]; exact w3 g' hg'
  · rw [e _ (by omega) (by omega)]; exact w4
  · rw [e _ (by omega) (by omega), e _ (by omega) (by omega), e _ (by omega) (by omega)]; exact w5 j hj
theorem sOK_me (h : sOK N S) (b : Nat) : sOK N (sMe S b) := sOK_we (sOK_we (sOK_we (sOK_we h (by decide)) (by decide)) (by decide)) (by decide)
/-! burn -/
def oBur (S : am_St) (v : Int32) : Int32 × am_St := if v < nI 0 ∨ nI 4 ≤ v then (-101, S) else if S 1 v.toNatClampNeg 0 = 0 then (-103, S) else (nI (S 1 v.toNatClampNeg 0), sMe (sU (sU S 1 v.toNatClampNeg 0) 2 v.toNatClampNeg 0) v.toNatClampNeg)
theorem oBur_ok (h : sOK N S) : sOK (N + 1) (oBur S v).2 := by
  unfold oBur
  split
  · exact sOK_up h
  · split
    · exact sOK_up h
    · exact sOK_me (sOK_sd (sOK_up h) (by decide) (by decide)) _
theorem c92 (h : cRep S σ) (hO : sOK N S) : ∃ σ', am_v X (d + 3) 92 [.ref (0 : Nat), .int v] σ = some (some (.int (oBur S v).1), σ') ∧ cRep (oBur S v).2 σ' ∧ am_pi nsM σ σ' := by
  have hF := h.1
  unfold oBur
  rw [s92]
  rcases pk_n v 4 (by decide) with c | ⟨b, hb, rfl⟩
  · rw [if_pos c]
    refine ⟨σ, ?_, h, am_pi.rf hF⟩
    by_cases c1 : v < nI 0
    · simp only [s92_0, s92_1, s92_4, s92_5, s92_6, s92_9, s92_11, s92_12, s92_13, s92_16, s92_19, s92_20, s92_21, s92_21n, s92_22, s92_22n, s92_23, s92_26, s92_29, s92_31, s92_32, s92_32n, s92_33, s92_36, s92_37, s92_37n, s92_38, s92_41, s92_42, am_pu_s, am_pu_n, va_rf_s, va_rf_n, Option.bind_some, true_or, or_true, eq_self, if_true, if_false, ite_self, ite_true, ite_false, ↓reduceIte, reduceCtorEq, Nat.reduceEqDiff, Nat.reduceAdd, Nat.reduceLT, Nat.reduceLeDiff, Nat.reduceMul, Nat.reduceSub, not_true_eq_false, not_false_eq_true, and_self, and_true, true_and, and_false, false_and, c1]
    · have c2 : ¬ v < nI 4 := by
        rcases c with c | c
        · exact absurd c c1
        · exact Int32.not_lt.mpr c
      simp only [s92_0, s92_1, s92_4, s92_5, s92_6, s92_9, s92_11, s92_12, s92_13, s92_16, s92_19, s92_20, s92_21, s92_21n, s92_22, s92_22n, s92_23, s92_26, s92_29, s92_31, s92_32, s92_32n, s92_33, s92_36, s92_37, s92_37n, s92_38, s92_41, s92_42, am_pu_s, am_pu_n, va_rf_s, va_rf_n, Option.bind_some, true_or, or_true, eq_self, if_true, if_false, ite_self, ite_true, ite_false, ↓reduceIte, reduceCtorEq, Nat.reduceEqDiff, Nat.reduceAdd, Nat.reduceLT, Nat.reduceLeDiff, Nat.reduceMul, Nat.reduceSub, not_true_eq_false, not_false_eq_true, and_self, and_true, true_and, and_false, false_and, c1, c2]
  · rw [if_neg (pk_nN hb (by decide)), nI_cl (by omega)]
    have c1 : ¬ nI b < nI 0 := nI_pos (by omega)
    have c2 : nI b < nI 4 := nI_lt hb (by decide)
    have hN := sO_N hO hb
    have e0 : (nI (S 1 b 0) = nI 0) = (S 1 b 0 = 0) := nI_EQ (by omega) (by decide)
    have kd := kdT hF (isTu8 hb)
    by_cases h0 : S 1 b 0 = 0
    · rw [if_pos h0]
      have t : (nI (S 1 b 0) = nI 0) = True := by rw [e0]; exact eq_true h0
      refine ⟨σ, ?_, h, am_pi.rf hF⟩
      simp only [s92_0, s92_1, s92_4, s92_5, s92_6, s92_9, s92_11, s92_12, s92_13, s92_16, s92_19, s92_20, s92_21, s92_21n, s92_22, s92_22n, s92_23, s92_26, s92_29, s92_31, s92_32, s92_32n, s92_33, s92_36, s92_37, s92_37n, s92_38, s92_41, s92_42, am_pu_s, am_pu_n, va_rf_s, va_rf_n, Option.bind_some, true_or, or_true, eq_self, if_true, if_false, ite_self, ite_true, ite_false, ↓reduceIte, reduceCtorEq, Nat.reduceEqDiff, Nat.reduceAdd, Nat.reduceLT, Nat.reduceLeDiff, Nat.reduceMul, Nat.reduceSub, not_true_eq_false, not_false_eq_true, and_self, and_true, true_and, and_false, false_and, c1, c2, hF, kd0, kd8, rr0_2, rr8_0, ix9 hF hb, nI_cl (show b < 2147483648 by omega), rTu8 hF hb, kd, cR_N h hb, t]
    · rw [if_neg h0]
      have t : ¬ nI (S 1 b 0) = nI 0 := by rw [e0]; exact h0
      have h1 := cRep_sd (n := 0) (p := 0) h hb
      have h2 := cRep_me h1 hb
      have e49 := m49 (X := X) (d := d) h1 hb
      have pp : am_pi nsM σ (am_wI (am_wI (am_wI (am_wI (am_wI (am_wI σ (15 + 3 * b) 2 (nI 0)) (15 + 3 * b) 3 (nI 0)) (15 + 3 * b + 2) 0 (nI 0)) (15 + 3 * b + 2) 1 (nI 0)) (15 + 3 * b + 2) 2 (nI 0)) (15 + 3 * b + 2) 3 (nI 0)) := ((((((am_pi.rf hF).w (ns_t (j := 0) hb (by decide))).w (ns_t (j := 0) hb (by decide))).w (ns_t hb (by decide))).w (ns_t hb (by decide))).w (ns_t hb (by decide))).w (ns_t hb (by decide))
      refine ⟨_, ?_, h2, pp⟩
      have e48 : am_v X (d + 2) 48 [.ref (15 + 3 * b)] σ = some (none, am_wI (am_wI (am_wI (am_wI (am_wI (am_wI σ (15 + 3 * b) 2 (nI 0)) (15 + 3 * b) 3 (nI 0)) (15 + 3 * b + 2) 0 (nI 0)) (15 + 3 * b + 2) 1 (nI 0)) (15 + 3 * b + 2) 2 (nI 0)) (15 + 3 * b + 2) 3 (nI 0)) := by
        rw [s48]
        simp only [s48_0, s48_1, s48_2, s48_5, s48_6, s48_7, s48_10, s48_11, am_pu_s, am_pu_n, va_rf_s, va_rf_n, Option.bind_some, true_or, or_true, eq_self, if_true, if_false, ite_self, ite_true, ite_false, ↓reduceIte, reduceCtorEq, Nat.reduceEqDiff, Nat.reduceAdd, Nat.reduceLT, Nat.reduceLeDiff, Nat.reduceMul, Nat.reduceSub, not_true_eq_false, not_false_eq_true, and_self, and_true, true_and, and_false, false_and, am_I_wI, am_I_wJ, am_J_wI, am_J_wJ, am_R_wI, am_R_wJ, am_kd_wI, am_kd_wJ, am_ln_wI, am_ln_wJ, am_ix_wI, am_ix_wJ, am_F_wI, am_F_wJ, am_I_wC, am_J_wC, am_R_wC, am_kd_wC, am_ln_wC, am_ix_wC, am_F_wC, kd]
        rw [e49]
        simp only [s48_14, am_pu_s, am_pu_n, va_rf_s, va_rf_n, Option.bind_some, true_or, or_true, eq_self, if_true, if_false, ite_self, ite_true, ite_false, ↓reduceIte, reduceCtorEq, Nat.reduceEqDiff, Nat.reduceAdd, Nat.reduceLT, Nat.reduceLeDiff, Nat.reduceMul, Nat.reduceSub, not_true_eq_false, not_false_eq_true, and_self, and_true, true_and, and_false, false_and]
      simp only [s92_0, s92_1, s92_4, s92_5, s92_6, s92_9, s92_11, s92_12, s92_13, s92_16, s92_19, s92_20, s92_21, s92_21n, s92_22, s92_22n, s92_23, s92_26, s92_29, s92_31, s92_32, s92_32n, s92_33, s92_36, s92_37, s92_37n, s92_38, s92_41, s92_42, am_pu_s, am_pu_n, va_rf_s, va_rf_n, Option.bind_some, true_or, or_true, eq_self, if_true, if_false, ite_self, ite_true, ite_false, ↓reduceIte, reduceCtorEq, Nat.reduceEqDiff, Nat.reduceAdd, Nat.reduceLT, Nat.reduceLeDiff, Nat.reduceMul, Nat.reduceSub, not_true_eq_false, not_false_eq_true, and_self, and_true, true_and, and_false, false_and, c1, c2, hF, kd0, kd8, rr0_2, rr8_0, ix9 hF hb, nI_cl (show b < 2147483648 by omega), rTu8 hF hb, kd, cR_N h hb, t, e48]
theorem wth4 {w : Int32} : (w < nI 0 ∨ nI 4 ≤ w) ↔ ¬ (nI 0 ≤ w ∧ w ≤ nI 3) := by
  constructor
  · rintro (q | q) ⟨q1, q2⟩
    · exact Int32.not_le.mpr q q1
    · have := (nI_lt_s (k := 3) (by decide) w).mpr (Int32.not_lt.mpr q2)
      exact Int32.not_le.mpr this q
  · intro q
    by_cases c : w < nI 0
    · exact Or.inl c
    · by_cases c2 : nI 4 ≤ w
      · exact Or.inr c2
      · exact absurd ⟨Int32.not_lt.mp c, Int32.not_lt.mp ((nI_lt_s (k := 3) (by decide) w).mp (Int32.not_le.mp c2))⟩ q
theorem c151 (h : mRep S σ) (hO : sOK N S) : ∃ σ', am_v X (d + 2) 151 [.ref (66 : Nat), .int v] σ = some (some (.int (oBur S v).1), σ') ∧ mRep (oBur S v).2 σ' ∧ am_pi nsC σ σ' := by
  have hF := h.1
  unfold oBur
  rw [s151]
  rcases pk_n v 4 (by decide) with c | ⟨b, hb, rfl⟩
  · rw [if_pos c]
    refine ⟨σ, ?_, h, am_pi.rf hF⟩
    simp only [s151_0, s151_1, s151_2, s151_3, s151_6, s151_9, s151_11, s151_12, s151_13, s151_16, s151_17, s151_18, s151_21, s151_23, s151_24, s151_25, s151_28, s151_29, s151_30, s151_31, s151_32, s151_35, s151_36, s151_37, s151_38, s151_39, s151_40, s151_43, s151_44, am_pu_s, am_pu_n, va_rf_s, va_rf_n, Option.bind_some, true_or, or_true, eq_self, if_true, if_false, ite_self, ite_true, ite_false, ↓reduceIte, reduceCtorEq, Nat.reduceEqDiff, Nat.reduceAdd, Nat.reduceLT, Nat.reduceLeDiff, Nat.reduceMul, Nat.reduceSub, not_true_eq_false, not_false_eq_true, and_self, and_true, true_and, and_false, false_and, m124, bI_f (wth4.mp c)]
  · rw [if_neg (pk_nN hb (by decide)), nI_cl (by omega)]
    have hb' : nI 0 ≤ nI b ∧ nI b ≤ nI 3 := ⟨nI_le (by omega) (by omega), nI_le (by omega) (by decide)⟩
    have hN := sO_N hO hb
    have e0 : (nI (S 1 b 0) = nI 0) = (S 1 b 0 = 0) := nI_EQ (by omega) (by decide)
    by_cases h0 : S 1 b 0 = 0
    · rw [if_pos h0]
      have t : (nI (S 1 b 0) = nI 0) = True := by rw [e0]; exact eq_true h0
      refine ⟨σ, ?_, h, am_pi.rf hF⟩
      simp only [s151_0, s151_1, s151_2, s151_3, s151_6, s151_9, s151_11, s151_12, s151_13, s151_16, s151_17, s151_18, s151_21, s151_23, s151_24, s151_25, s151_28, s151_29, s151_30, s151_31, s151_32, s151_35, s151_36, s151_37, s151_38, s151_39, s151_40, s151_43, s151_44, am_pu_s, am_pu_n, va_rf_s, va_rf_n, Option.bind_some, true_or, or_true, eq_self, if_true, if_false, ite_self, ite_true, ite_false, ↓reduceIte, reduceCtorEq, Nat.reduceEqDiff, Nat.reduceAdd, Nat.reduceLT, Nat.reduceLeDiff, Nat.reduceMul, Nat.reduceSub, not_true_eq_false, not_false_eq_true, and_self, and_true, true_and, and_false, false_and, m124, bI_t hb', nI_10, hF, kd66, rr66_1, ix68 hF hb, nI_cl (show b < 2147483648 by omega), mR_N h hb, t]
    · rw [if_neg h0]
      have t : ¬ nI (S 1 b 0) = nI 0 := by rw [e0]; exact h0
      have h1 : mRep (sU (sU S 1 b 0) 2 b 0) (am_wI σ 68 b (nI 0)) := mRep_sz h hb hF (by rw [am_I_wI, if_pos ⟨rfl, rfl⟩]) (fun q => absurd q (by decide)) (fun a k q => by rw [am_I_wI, if_neg (by omega)])
      have h2 := mRep_me h1 hb
      have e149 := m149 (X := X) (d := d) h1 hb
      have pp : am_pi nsC σ (am_wI (am_wI (am_wI (am_wI (am_wI σ 68 b (nI 0)) 75 (4 * b + 0) (nI 0)) 75 (4 * b + 1) (nI 0)) 75 (4 * b + 2) (nI 0)) 75 (4 * b + 3) (nI 0)) := (((((am_pi.rf hF).w (by rfl)).w (by rfl)).w (by rfl)).w (by rfl)).w (by rfl)
      refine ⟨_, ?_, h2, pp⟩
      simp only [s151_0, s151_1, s151_2, s151_3, s151_6, s151_9, s151_11, s151_12, s151_13, s151_16, s151_17, s151_18, s151_21, s151_23, s151_24, s151_25, s151_28, s151_29, s151_30, s151_31, s151_32, s151_35, s151_36, s151_37, s151_38, s151_39, s151_40, s151_43, s151_44, am_pu_s, am_pu_n, va_rf_s, va_rf_n, Option.bind_some, true_or, or_true, eq_self, if_true, if_false, ite_self, ite_true, ite_false, ↓reduceIte, reduceCtorEq, Nat.reduceEqDiff, Nat.reduceAdd, Nat.reduceLT, Nat.reduceLeDiff, Nat.reduceMul, Nat.reduceSub, not_true_eq_false, not_false_eq_true, and_self, and_true, true_and, and_false, false_and, am_I_wI, am_I_wJ, am_J_wI, am_J_wJ, am_R_wI, am_R_wJ, am_kd_wI, am_kd_wJ, am_ln_wI, am_ln_wJ, am_ix_wI, am_ix_wJ, am_F_wI, am_F_wJ, am_I_wC, am_J_wC, am_R_wC, am_kd_wC, am_ln_wC, am_ix_wC, am_F_wC, m124, bI_t hb', nI_10, hF, kd66, rr66_1, ix68 hF hb, nI_cl (show b < 2147483648 by omega), mR_N h hb, t]
      rw [e149]
      simp only [s151_0, s151_1, s151_2, s151_3, s151_6, s151_9, s151_11, s151_12, s151_13, s151_16, s151_17, s151_18, s151_21, s151_23, s151_24, s151_25, s151_28, s151_29, s151_30, s151_31, s151_32, s151_35, s151_36, s151_37, s151_38, s151_39, s151_40, s151_43, s151_44, am_pu_s, am_pu_n, va_rf_s, va_rf_n, Option.bind_some, true_or, or_true, eq_self, if_true, if_false, ite_self, ite_true, ite_false, ↓reduceIte, reduceCtorEq, Nat.reduceEqDiff, Nat.reduceAdd, Nat.reduceLT, Nat.reduceLeDiff, Nat.reduceMul, Nat.reduceSub, not_true_eq_false, not_false_eq_true, and_self, and_true, true_and, and_false, false_and]
/-! write -/
theorem cRep_b1 (h : cRep S σ) {b k x : Nat} (hb : b < 4) (hk : k < 60) : cRep (sB1 S b k x) (am_wI σ (15 + 3 * b + 1) k (nI x)) := by
  have e : ∀ j, ¬ j = 0 → sB1 S b k x j = S j := fun j q => sB1_o S q
  refine cRep_n h (fun j q => e j (by omega)) h.1 ?_ (fun a k q => by rw [am_I_wI, if_neg (by omega)])
  obtain ⟨w1, w2, w3, w4⟩ := h.2.1
  refine ⟨?_, fun b' hb' => ⟨⟨?_, fun j hj => ?_, fun g' hg' => ?_⟩, fun q => ?_⟩, fun g' hg' => ?_, ?_, fun j hj => ?_⟩
  · rw [am_I_wI, if_neg (by omega), e _ (by omega)]; exact w1
  · rw [am_I_wI, if_neg (by omega), e _ (by omega)]; exact (w2 b' hb').1.1
  · show _ = nI (sB1 S b k x 0 b' j)
    rw [am_I_wI, sB1_0]
    by_cases c : b' = b ∧ j = k
    · rw [if_pos (by omega), if_pos c]
    · rw [if_neg (by omega), if_neg c]
      exact (w2 b' hb').1.2.1 j hj
  · rw [am_I_wI, if_neg (by omega), e _ (by omega)]; exact (w2 b' hb').1.2.2 g' hg'
  · rw [e _ (by omega)] at q
    rw [am_I_wI, if_neg (by omega), e _ (by omega)]; exact (w2 b' hb').2 q
  · rw [e _ (by omega), e _ (by omega), e _ (by omega), e _ (by omega), e _ (by omega)]
    exact (w3 g' hg').pr fun j => by rw [am_I_wI, if_neg (by omega)]
  · rw [am_I_wI, if_neg (by omega), e _ (by omega)]; exact w4.1
  · rw [am_I_wI, if_neg (by omega), am_I_wI, if_neg (by omega), am_I_wI, if_neg (by omega), e _ (by omega), e _ (by omega), e _ (by omega)]; exact w4.2 j hj
theorem mRep_b1 (h : mRep S σ) {b k x : Nat} (hb : b < 4) (hk : k < 60) : mRep (sB1 S b k x) (am_wI σ 67 (60 * b + k) (nI x)) := by
  have e : ∀ j, ¬ j = 0 → sB1 S b k x j = S j := fun j q => sB1_o S q
  refine mRep_n h (fun j q => e j (by omega)) (e _ (by omega)) (e _ (by omega)) h.1 ?_ (by rw [am_I_wI, if_neg (by omega), e _ (by omega)]; exact mR_sn h) (fun a k q => by rw [am_I_wI, if_neg (by omega)])
  obtain ⟨w1, w2, w3⟩ := h.2.1
  refine ⟨fun b' hb' => ?_, fun g' hg' => ?_, fun j hj => ?_⟩
  · obtain ⟨a1, a2, a3, a4⟩ := w1 b' hb'
    rw [e (0 + 1) (by omega), e (0 + 2) (by omega), e (0 + 3) (by omega)]
    refine ⟨fun j hj => ?_, by rw [am_I_wI, if_neg (by omega)]; exact a2, fun q => by rw [am_I_wI, if_neg (by omega)]; exact a3 q, fun g' hg' => by rw [am_I_wI, if_neg (by omega)]; exact a4 g' hg'⟩
    show _ = nI (sB1 S b k x 0 b' j)
    rw [am_I_wI, sB1_0]
    by_cases c : b' = b ∧ j = k
    · rw [if_pos (by omega), if_pos c]
    · rw [if_neg (by omega), if_neg c]
      exact a1 j hj
  · rw [am_I_wI, if_neg (by omega), am_I_wI, if_neg (by omega), am_I_wI, if_neg (by omega), am_I_wI, if_neg (by omega), e _ (by omega), e _ (by omega), e _ (by omega), e _ (by omega)]
    exact w2 g' hg'
  · rw [am_I_wI, if_neg (by omega), am_I_wI, if_neg (by omega), am_I_wI, if_neg (by omega), e _ (by omega), e _ (by omega), e _ (by omega)]
    exact w3 j hj
theorem sOK_b1 (h : sOK N S) {b k x : Nat} (hx : x < 128) : sOK N (sB1 S b k x) := by
  have e : ∀ j, ¬ j = 0 → sB1 S b k x j = S j := fun j q => sB1_o S q
  refine sOK_m h (fun j q => e j (by omega)) (e _ (by omega)) (e _ (by omega)) ?_
  obtain ⟨w1, w2, w3, w4, w5⟩ := h.1
  refine ⟨fun b' hb' => ?_, ?_, fun g' hg' => ?_, ?_, fun j hj => ?_⟩
  · obtain ⟨a1, a2, a3, a4⟩ := w1 b' hb'
    rw [e (0 + 1) (by omega), e (0 + 2) (by omega), e (0 + 3) (by omega)]
    refine ⟨a1, fun j hj => ?_, a3, a4⟩
    show sB1 S b k x 0 b' j < 128
    rw [sB1_0]
    split
    · exact hx
    · exact a2 j hj
  · rw [e _ (by omega)]; exact w2
  · rw [e _ (by omega), e _ (by omega), e _ (by omega)]; exact w3 g' hg'
  · rw [e _ (by omega)]; exact w4
  · rw [e _ (by omega), e _ (by omega), e _ (by omega)]; exact w5 j hj
theorem sOK_be (h : sOK N S) {b n : Nat} {T : am_T} (hT : ∀ j, j < n → T 9 j < 128) : sOK N (sBe S b T n) := by
  unfold sBe
  exact am_fd_P (P := fun S1 : am_St => sOK N S1) _ _ _ _ (fun k x _ q2 q => sOK_b1 q (hT k (by omega))) h
theorem cCo_pr {T : am_T} (h : cCo T σ) (hF : am_F σ') (hm : ∀ a k, 3 ≤ a → a ≤ 7 → am_I σ' a k = am_I σ a k) : cCo T σ' := by
  obtain ⟨_, ⟨c0, c4, c6, c7, c8⟩, cb, cs⟩ := h
  refine ⟨hF, ⟨?_, ?_, ?_, ?_, ?_⟩, fun j hj => ?_, fun j hj => ?_⟩
  · rw [hm _ _ (by omega) (by omega)]; exact c0
  · rw [hm _ _ (by omega) (by omega)]; exact c4
  · rw [hm _ _ (by omega) (by omega)]; exact c6
  · rw [hm _ _ (by omega) (by omega)]; exact c7
  · rw [hm _ _ (by omega) (by omega)]; exact c8
  · rw [hm _ _ (by omega) (by omega)]; exact cb j hj
  · rw [hm _ _ (by omega) (by omega), hm _ _ (by omega) (by omega), hm _ _ (by omega) (by omega)]; exact cs j hj
def sWt (S : am_St) (b : Nat) : am_St := sU (sU (sMe (sBe (sU (sU S 1 b ((rdR S).2 7 0)) 2 b ((rdR S).2 6 0)) b (rdR S).2 ((rdR S).2 7 0)) b) 14 0 0) 17 0 (S 17 0 0 + 1)
def oWri (S : am_St) (v : Int32) : Int32 × am_St := if v < nI 0 ∨ nI 4 ≤ v then (-101, S) else if ¬ wTn S then (-103, S) else if (rdR S).2 8 0 = 1 then (-104, S) else (nI ((rdR S).2 7 0), sWt S v.toNatClampNeg)
theorem sOK_14 (h : sOK N S) : sOK N (sU S 14 0 0) := ⟨wOK_S (fun i _ q => sU_o S (by omega)) h.1, ⟨by show 0 ≤ 40; omega, fun j hj => absurd (show j < 0 from hj) (by omega)⟩, h.2.2.1, sOK_K (S' := sU S 14 0 0) h (fun i q => sU_o S (by omega)) (sU_o S (by omega)) (sU_o S (by omega))⟩
theorem sOK_17 (h : sOK N S) {x : Nat} : sOK N (sU S 17 0 x) := ⟨wOK_S (fun i _ q => sU_o S (by omega)) h.1, h.2.1, h.2.2.1, sOK_K (S' := sU S 17 0 x) h (fun i q => sU_o S (by omega)) (sU_o S (by omega)) (sU_o S (by omega))⟩
theorem oWri_ok (h : sOK N S) : sOK (N + 1) (oWri S v).2 := by
  have hL := sO_L h
  have hr := rdR_le S
  obtain ⟨⟨a0, a1, a4, a5, a6⟩, _, _, _, hB, _⟩ := rdR_ok S
  unfold oWri
  split
  · exact sOK_up h
  split
  · exact sOK_up h
  split
  · exact sOK_up h
  · exact sOK_17 (sOK_14 (sOK_me (sOK_be (sOK_sd (sOK_up h) hB.1 (by omega)) hB.2.2) _))
theorem cRep_17 (h : cRep S σ) {x : Nat} : cRep (sU S 17 0 x) (am_wI σ 0 10 (nI x)) := by
  refine ⟨h.1, cWld_S (fun i _ q => sU_o S (by omega)) (h.2.1.pr fun a k q1 q2 => ?_), cRep_K h (fun i q => sU_o S (by omega)) (fun a k q1 q2 => ?_), ⟨?_, fun j hj => ?_⟩, fun g hg => ?_, ?_, ?_, ?_⟩
  · rw [am_I_wI, if_neg (by omega)]
  · rw [am_I_wI, if_neg (by omega)]
  · rw [am_I_wI, if_neg (by omega)]; exact h.2.2.2.1.1
  · rw [am_I_wI, if_neg (by omega)]; exact h.2.2.2.1.2 j hj
  · rw [am_I_wI, if_neg (by omega)]; exact cR_no h hg
  · rw [am_I_wI, if_neg (by omega)]; exact h.2.2.2.2.2.1
  · rw [am_I_wI, if_neg (by omega)]; exact h.2.2.2.2.2.2.1
  · rw [am_I_wI, if_pos ⟨rfl, rfl⟩]; rfl
theorem mRep_17 (h : mRep S σ) {x : Nat} : mRep (sU S 17 0 x) (am_wI σ 66 3 (nI x)) := by
  have hk := mRep_K (S' := sU S 17 0 x) (σ' := am_wI σ 66 3 (nI x)) h (fun i q => sU_o S (by omega)) (sU_o S (by omega)) (fun a k q => by rw [am_I_wI, if_neg (by omega)]) (by rw [am_I_wI, if_neg (by omega)]) (by rw [am_I_wI, if_neg (by omega)]) (by rw [am_I_wI, if_neg (by omega)])
  obtain ⟨hF, h2, h3, h4, h5, h6, h7, h8, _, _⟩ := h
  refine ⟨hF, mWld_S (fun i _ q => sU_o S (by omega)) (h2.pr fun a k ha => ?_), fun g hg => ?_, ?_, ?_, ⟨?_, fun j hj => ?_⟩, ?_, ?_, hk.1, hk.2⟩
  · simp at ha
    rw [am_I_wI, if_neg (by omega)]
  · rw [am_I_wI, if_neg (by omega)]; exact h3 g hg
  · rw [am_I_wI, if_neg (by omega)]; exact h4
  · rw [am_I_wI, if_neg (by omega)]; exact h5
  · rw [am_I_wI, if_neg (by omega)]; exact h6.1
  · rw [am_I_wI, if_neg (by omega)]; exact h6.2 j hj
  · rw [am_I_wI, if_neg (by omega)]; exact h7
  · rw [am_I_wI, if_pos ⟨rfl, rfl⟩]; rfl
theorem m47 {T : am_T} {b : Nat} (h : cRep S σ) (hC : cCo T σ) (hB : tB T) (hb : b < 4) : ∃ σ', am_v X (d + 2) 47 [.ref (15 + 3 * b), .ref (3 : Nat)] σ = some (none, σ') ∧ cRep (sMe (sBe (sU (sU S 1 b (T 7 0)) 2 b (T 6 0)) b T (T 7 0)) b) σ' ∧ am_pi nsM σ σ' := by
  have hF := h.1
  have h60 := hB.1
  have hI := isTu8 hb
  have h1 := cRep_sd (n := T 7 0) (p := T 6 0) h hb
  have p1 : am_pi nsM σ (am_wI (am_wI σ (15 + 3 * b) 2 (nI (T 7 0))) (15 + 3 * b) 3 (nI (T 6 0))) := ((am_pi.rf hF).w (ns_t (j := 0) hb (by decide))).w (ns_t (j := 0) hb (by decide))
  have hC1 : cCo T (am_wI (am_wI σ (15 + 3 * b) 2 (nI (T 7 0))) (15 + 3 * b) 3 (nI (T 6 0))) := cCo_pr hC hF (fun a k q1 q2 => by rw [am_I_wI, if_neg (by omega), am_I_wI, if_neg (by omega)])
  obtain ⟨σ2, e2, h2, c2, q2, p2⟩ := am_lps (fun k (_ : am_St) σ1 => am_w X (d + 1) 47 23 [some (.ref (15 + 3 * b)), some (.ref (3 : Nat)), some (.int (nI k))] [] σ1) (fun k S1 => sB1 S1 b k (T 9 k)) (T 7 0) (fun _ S1 σ1 => cRep S1 σ1 ∧ cCo T σ1 ∧ S1 1 b 0 = T 7 0 ∧ am_pi nsM σ σ1) (fun k S1 σ1 hk hp => by
    obtain ⟨g1, g2, g3, g4⟩ := hp
    have c0 : ¬ nI (T 7 0) ≤ nI k := nI_ge hk (by omega)
    have rN := cR_N g1 hb
    rw [g3] at rN
    refine ⟨am_wI σ1 (15 + 3 * b + 1) k (nI (T 9 k)), ?_, cRep_b1 g1 hb (by omega), cCo_pr g2 g1.1 (fun a j q1 q2 => by rw [am_I_wI, if_neg (by omega)]), by rw [sB1_o _ (by decide)]; exact g3, g4.w (ns_t hb (by decide))⟩
    try dsimp only
    rw [s47_23]
    simp only [s47_24, s47_25, s47_28, s47_31, s47_32, s47_35, s47_36, s47_37, s47_38, s47_41, s47_42, s47_45, am_pu_s, am_pu_n, va_rf_s, va_rf_n, Option.bind_some, true_or, or_true, eq_self, if_true, if_false, ite_self, ite_true, ite_false, ↓reduceIte, reduceCtorEq, Nat.reduceEqDiff, Nat.reduceAdd, Nat.reduceLT, Nat.reduceLeDiff, Nat.reduceMul, Nat.reduceSub, not_true_eq_false, not_false_eq_true, and_self, and_true, true_and, and_false, false_and, g1.1, kdT g1.1 hI, kd3, rT0 g1.1 hI, rN, c0, m64 g2 hB hk, ixB g1.1 hI (show k < 60 by omega), nI_cl (show k < 2147483648 by omega), nI_add]) (T 7 0) 0 _ _ (by omega) ⟨h1, hC1, by rw [sU_o _ (by decide), sU_at, if_pos rfl], p1⟩
  have h2' : cRep (sBe (sU (sU S 1 b (T 7 0)) 2 b (T 6 0)) b T (T 7 0)) σ2 := h2
  have h3 := cRep_me h2' hb
  have e3 := m49 (X := X) (d := d) h2' hb
  have p3 := (((p2.w (ns_t (j := 2) (k := 0) hb (by decide)) (v := nI 0)).w (ns_t (j := 2) (k := 1) hb (by decide)) (v := nI 0)).w (ns_t (j := 2) (k := 2) hb (by decide)) (v := nI 0)).w (ns_t (j := 2) (k := 3) hb (by decide)) (v := nI 0)
  refine ⟨_, ?_, h3, p3⟩
  have mn : (if nI 60 < nI (T 7 0) then nI 60 else nI (T 7 0)) = nI (T 7 0) := if_neg (nI_nlt (by omega) (by decide))
  have rN := cR_N h2' hb
  rw [sBe_o _ (by decide), sU_o _ (by decide), sU_at, if_pos rfl] at rN
  rw [s47]
  simp only [s47_0, s47_1, s47_2, s47_5, s47_7, s47_10, s47_13, s47_14, s47_15, s47_18, s47_21, s47_22, am_pu_s, am_pu_n, va_rf_s, va_rf_n, Option.bind_some, true_or, or_true, eq_self, if_true, if_false, ite_self, ite_true, ite_false, ↓reduceIte, reduceCtorEq, Nat.reduceEqDiff, Nat.reduceAdd, Nat.reduceLT, Nat.reduceLeDiff, Nat.reduceMul, Nat.reduceSub, not_true_eq_false, not_false_eq_true, and_self, and_true, true_and, and_false, false_and, am_I_wI, am_I_wJ, am_J_wI, am_J_wJ, am_R_wI, am_R_wJ, am_kd_wI, am_kd_wJ, am_ln_wI, am_ln_wJ, am_ix_wI, am_ix_wJ, am_F_wI, am_F_wJ, am_I_wC, am_J_wC, am_R_wC, am_kd_wC, am_ln_wC, am_ix_wC, am_F_wC, hF, kdT hF hI, kd3, hC.2.1.2.2.2.1, hC.2.1.2.2.1, m218, mn]
  refine Eq.trans e2 ?_
  try dsimp only
  rw [s47_23]
  simp only [s47_24, s47_25, s47_28, s47_48, s47_49, am_pu_s, am_pu_n, va_rf_s, va_rf_n, Option.bind_some, true_or, or_true, eq_self, if_true, if_false, ite_self, ite_true, ite_false, ↓reduceIte, reduceCtorEq, Nat.reduceEqDiff, Nat.reduceAdd, Nat.reduceLT, Nat.reduceLeDiff, Nat.reduceMul, Nat.reduceSub, not_true_eq_false, not_false_eq_true, and_self, and_true, true_and, and_false, false_and, h2.1, kdT h2.1 hI, rN, Int32.le_refl]
  rw [e3]
  simp only [s47_52, am_pu_s, am_pu_n, va_rf_s, va_rf_n, Option.bind_some, true_or, or_true, eq_self, if_true, if_false, ite_self, ite_true, ite_false, ↓reduceIte, reduceCtorEq, Nat.reduceEqDiff, Nat.reduceAdd, Nat.reduceLT, Nat.reduceLeDiff, Nat.reduceMul, Nat.reduceSub, not_true_eq_false, not_false_eq_true, and_self, and_true, true_and, and_false, false_and]
theorem c91 (h : cRep S σ) (hO : sOK N S) : ∃ σ', am_v X (d + 8) 91 [.ref (0 : Nat), .int v] σ = some (some (.int (oWri S v).1), σ') ∧ cRep (oWri S v).2 σ' ∧ am_pi nsM σ σ' := by
  have hF := h.1
  unfold oWri
  rw [s91]
  rcases pk_n v 4 (by decide) with c | ⟨b, hb, rfl⟩
  · rw [if_pos c]
    refine ⟨σ, ?_, h, am_pi.rf hF⟩
    by_cases c1 : v < nI 0
    · simp only [s91_0, s91_1, s91_4, s91_5, s91_6, s91_9, s91_11, s91_12, s91_13, s91_16, s91_17, s91_20, s91_23, s91_24, s91_27, s91_28, s91_31, s91_34, s91_37, s91_39, s91_40, s91_41, s91_44, s91_47, s91_50, s91_52, s91_53, s91_54, s91_57, s91_60, s91_61, s91_62, s91_62n, s91_63, s91_63n, s91_64, s91_65, s91_68, s91_71, s91_72, s91_75, s91_78, s91_79, s91_80, s91_83, s91_84, s91_85, s91_88, s91_88n, s91_89, s91_92, am_pu_s, am_pu_n, va_rf_s, va_rf_n, Option.bind_some, true_or, or_true, eq_self, if_true, if_false, ite_self, ite_true, ite_false, ↓reduceIte, reduceCtorEq, Nat.reduceEqDiff, Nat.reduceAdd, Nat.reduceLT, Nat.reduceLeDiff, Nat.reduceMul, Nat.reduceSub, not_true_eq_false, not_false_eq_true, and_self, and_true, true_and, and_false, false_and, c1]
    · have c2 : ¬ v < nI 4 := by
        rcases c with c | c
        · exact absurd c c1
        · exact Int32.not_lt.mpr c
      simp only [s91_0, s91_1, s91_4, s91_5, s91_6, s91_9, s91_11, s91_12, s91_13, s91_16, s91_17, s91_20, s91_23, s91_24, s91_27, s91_28, s91_31, s91_34, s91_37, s91_39, s91_40, s91_41, s91_44, s91_47, s91_50, s91_52, s91_53, s91_54, s91_57, s91_60, s91_61, s91_62, s91_62n, s91_63, s91_63n, s91_64, s91_65, s91_68, s91_71, s91_72, s91_75, s91_78, s91_79, s91_80, s91_83, s91_84, s91_85, s91_88, s91_88n, s91_89, s91_92, am_pu_s, am_pu_n, va_rf_s, va_rf_n, Option.bind_some, true_or, or_true, eq_self, if_true, if_false, ite_self, ite_true, ite_false, ↓reduceIte, reduceCtorEq, Nat.reduceEqDiff, Nat.reduceAdd, Nat.reduceLT, Nat.reduceLeDiff, Nat.reduceMul, Nat.reduceSub, not_true_eq_false, not_false_eq_true, and_self, and_true, true_and, and_false, false_and, c1, c2]
  rw [if_neg (pk_nN hb (by decide)), nI_cl (by omega)]
  have c1 : ¬ nI b < nI 0 := nI_pos (by omega)
  have c2 : nI b < nI 4 := nI_lt hb (by decide)
  obtain ⟨_, _, _, _, hB, _⟩ := rdR_ok S
  obtain ⟨σ1, e1, hr, p1, h10⟩ := m62 (X := X) (d := d) h hO
  have h1 := h.prA p1
  have hF1 := h1.1
  have e63 := m63 (X := X) (d := d + 6) h1 hO hr h10
  have r13 := hr.1.2.1.2.2.2.2
  have b8 := hB.2.1
  by_cases cw : wTn S
  · rw [if_neg (fun q => q cw)]
    rw [bI_t cw] at e63
    by_cases c8 : (rdR S).2 8 0 = 1
    · rw [if_pos c8]
      rw [c8] at r13
      refine ⟨σ1, ?_, h1, p1.A_M.i⟩
      simp only [s91_0, s91_1, s91_4, s91_5, s91_6, s91_9, s91_11, s91_12, s91_13, s91_16, s91_17, s91_20, s91_23, s91_24, s91_27, s91_28, s91_31, s91_34, s91_37, s91_39, s91_40, s91_41, s91_44, s91_47, s91_50, s91_52, s91_53, s91_54, s91_57, s91_60, s91_61, s91_62, s91_62n, s91_63, s91_63n, s91_64, s91_65, s91_68, s91_71, s91_72, s91_75, s91_78, s91_79, s91_80, s91_83, s91_84, s91_85, s91_88, s91_88n, s91_89, s91_92, am_pu_s, am_pu_n, va_rf_s, va_rf_n, Option.bind_some, true_or, or_true, eq_self, if_true, if_false, ite_self, ite_true, ite_false, ↓reduceIte, reduceCtorEq, Nat.reduceEqDiff, Nat.reduceAdd, Nat.reduceLT, Nat.reduceLeDiff, Nat.reduceMul, Nat.reduceSub, not_true_eq_false, not_false_eq_true, and_self, and_true, true_and, and_false, false_and, c1, c2, hF, hF1, kd0, kd3, rr0_0, rr0_1, e1, e63, nI_10, r13]
    · rw [if_neg c8]
      rw [show (rdR S).2 8 0 = 0 by omega] at r13
      obtain ⟨σ2, e2, h2, p2⟩ := m47 (X := X) (d := d + 5) h1 hr.1 hB hb
      have h3 := cRep_p0 h2
      have h17 : am_I (am_wI σ2 1 1 (nI 0)) 0 10 = nI (S 17 0 0) := by
        have q := h3.2.2.2.2.2.2.2
        rw [sU_o _ (by decide), sMe_o _ (by decide), sBe_o _ (by decide), sU_o _ (by decide), sU_o _ (by decide)] at q
        exact q
      have h4 := cRep_17 (x := S 17 0 0 + 1) h3
      have rN := cR_N h4 hb
      rw [sU_o _ (by decide), sU_o _ (by decide), sMe_o _ (by decide), sBe_o _ (by decide), sU_o _ (by decide), sU_at, if_pos rfl] at rN
      have pp : am_pi nsM σ (am_wI (am_wI σ2 1 1 (nI 0)) 0 10 (nI (S 17 0 0 + 1))) := ((p1.A_M.i.tr p2).w (by rfl)).w (by rfl)
      refine ⟨_, ?_, h4, pp⟩
      have hF2 := h2.1
      have hF3 := h3.1
      have hF4 := h4.1
      simp only [s91_0, s91_1, s91_4, s91_5, s91_6, s91_9, s91_11, s91_12, s91_13, s91_16, s91_17, s91_20, s91_23, s91_24, s91_27, s91_28, s91_31, s91_34, s91_37, s91_39, s91_40, s91_41, s91_44, s91_47, s91_50, s91_52, s91_53, s91_54, s91_57, s91_60, s91_61, s91_62, s91_62n, s91_63, s91_63n, s91_64, s91_65, s91_68, s91_71, s91_72, s91_75, s91_78, s91_79, s91_80, s91_83, s91_84, s91_85, s91_88, s91_88n, s91_89, s91_92, am_pu_s, am_pu_n, va_rf_s, va_rf_n, Option.bind_some, true_or, or_true, eq_self, if_true, if_false, ite_self, ite_true, ite_false, ↓reduceIte, reduceCtorEq, Nat.reduceEqDiff, Nat.reduceAdd, Nat.reduceLT, Nat.reduceLeDiff, Nat.reduceMul, Nat.reduceSub, not_true_eq_false, not_false_eq_true, and_self, and_true, true_and, and_false, false_and, c1, c2, hF, hF1, hF2, hF3, hF4, kd0, kd1, kd3, kd8, rr0_0, rr0_1, rr0_2, rr8_0, e1, e63, nI_10, r13, ix9 hF1 hb, nI_cl (show b < 2147483648 by omega), rTu8 hF1 hb, kdT hF1 (isTu8 hb), kdT hF4 (isTu8 hb), e2, m23 hF2, h17, nI_add, rN]
  · rw [if_pos cw]
    rw [bI_f cw] at e63
    refine ⟨σ1, ?_, h1, p1.A_M.i⟩
    simp only [s91_0, s91_1, s91_4, s91_5, s91_6, s91_9, s91_11, s91_12, s91_13, s91_16, s91_17, s91_20, s91_23, s91_24, s91_27, s91_28, s91_31, s91_34, s91_37, s91_39, s91_40, s91_41, s91_44, s91_47, s91_50, s91_52, s91_53, s91_54, s91_57, s91_60, s91_61, s91_62, s91_62n, s91_63, s91_63n, s91_64, s91_65, s91_68, s91_71, s91_72, s91_75, s91_78, s91_79, s91_80, s91_83, s91_84, s91_85, s91_88, s91_88n, s91_89, s91_92, am_pu_s, am_pu_n, va_rf_s, va_rf_n, Option.bind_some, true_or, or_true, eq_self, if_true, if_false, ite_self, ite_true, ite_false, ↓reduceIte, reduceCtorEq, Nat.reduceEqDiff, Nat.reduceAdd, Nat.reduceLT, Nat.reduceLeDiff, Nat.reduceMul, Nat.reduceSub, not_true_eq_false, not_false_eq_true, and_self, and_true, true_and, and_false, false_and, c1, c2, hF, hF1, kd0, kd3, rr0_0, rr0_1, e1, e63]
end MU
