/-! image, restore -/
theorem cWld_sh {σ : am_M} {o c c' : Nat} {S S' : am_St} (e : ∀ i, i < 14 → S' (c' + i) = S (c + i)) (h : cWld σ o S c) : cWld σ o S' c' := by
  unfold cWld at *
  have e0 : S' c' = S c := e 0 (by decide)
  rw [e 4 (by omega), e 1 (by omega), e0, e 3 (by omega), e 2 (by omega), e 5 (by omega), e 6 (by omega), e 7 (by omega), e 8 (by omega), e 9 (by omega), e 10 (by omega), e 11 (by omega), e 12 (by omega), e 13 (by omega)]
  exact h
theorem mWld_sh {σ : am_M} {oB oN oD oT oWd oPa oOw oWn oG oP oV c c' : Nat} {S S' : am_St} (e : ∀ i, i < 14 → S' (c' + i) = S (c + i)) (h : mWld σ oB oN oD oT oWd oPa oOw oWn oG oP oV S c) : mWld σ oB oN oD oT oWd oPa oOw oWn oG oP oV S' c' := by
  unfold mWld at *
  have e0 : S' c' = S c := e 0 (by decide)
  rw [e 1 (by omega), e0, e 3 (by omega), e 2 (by omega), e 6 (by omega), e 7 (by omega), e 8 (by omega), e 9 (by omega), e 11 (by omega), e 12 (by omega), e 13 (by omega)]
  exact h
theorem wOK_sh {c c' : Nat} {S S' : am_St} (e : ∀ i, i < 14 → S' (c' + i) = S (c + i)) (h : wOK S c) : wOK S' c' := by
  unfold wOK at *
  have e0 : S' c' = S c := e 0 (by decide)
  rw [e 4 (by omega), e 1 (by omega), e0, e 3 (by omega), e 2 (by omega), e 5 (by omega), e 6 (by omega), e 7 (by omega), e 10 (by omega), e 11 (by omega), e 12 (by omega), e 13 (by omega)]
  exact h
section MU
variable {X : am_X} {d N : Nat} {σ σ' : am_M} {S S' : am_St} {v w : Int32}
theorem mWld_cp {oB oN oD oT oWd oPa oOw oWn oG oP oV pB pN pD pT pWd pPa pOw pWn pG pP pV c : Nat} (h : mWld σ oB oN oD oT oWd oPa oOw oWn oG oP oV S c) (xB : ∀ j, j < 240 → am_I σ' pB j = am_I σ oB j) (xN : ∀ j, j < 4 → am_I σ' pN j = am_I σ oN j) (xD : ∀ j, j < 4 → am_I σ' pD j = am_I σ oD j) (xT : ∀ j, j < 4 → am_I σ' pT j = am_I σ oT j) (xW : ∀ j, j < 4 → am_I σ' pWd j = am_I σ oWd j) (xP : ∀ j, j < 4 → am_I σ' pPa j = am_I σ oPa j) (xO : ∀ j, j < 4 → am_I σ' pOw j = am_I σ oOw j) (xY : ∀ j, j < 16 → am_I σ' pWn j = am_I σ oWn j) (xG : ∀ j, j < 8 → am_I σ' pG j = am_I σ oG j) (xA : ∀ j, j < 8 → am_I σ' pP j = am_I σ oP j) (xV : ∀ j, j < 8 → am_I σ' pV j = am_I σ oV j) : mWld σ' pB pN pD pT pWd pPa pOw pWn pG pP pV S c := by
  obtain ⟨h1, h2, h3⟩ := h
  refine ⟨fun b hb => ?_, fun g hg => ?_, fun j hj => ?_⟩
  · obtain ⟨a1, a2, a3, a4⟩ := h1 b hb
    exact ⟨fun j hj => by rw [xB _ (by omega)]; exact a1 j hj, by rw [xN b hb]; exact a2, fun q => by rw [xD b hb]; exact a3 q, fun g hg => by rw [xY _ (by omega)]; exact a4 g hg⟩
  · rw [xT g hg, xW g hg, xP g hg, xO g hg]; exact h2 g hg
  · rw [xG j hj, xA j hj, xV j hj]; exact h3 j hj
def sIm (S : am_St) : am_St := fun x y z => if x = 18 ∧ y = 0 ∧ z = 0 then 1 else if 20 ≤ x ∧ x < 34 then S (x - 20) y z else S x y z
def sRe (S : am_St) : am_St := fun x y z => if x < 14 then S (x + 20) y z else S x y z
theorem sIm_o (S : am_St) {i : Nat} (h : ¬ i = 18) (h2 : ¬ (20 ≤ i ∧ i < 34)) : sIm S i = S i := by
  funext y z
  show (if i = 18 ∧ y = 0 ∧ z = 0 then 1 else if 20 ≤ i ∧ i < 34 then S (i - 20) y z else S i y z) = _
  rw [if_neg (fun q => h q.1), if_neg h2]
theorem sIm_k (S : am_St) {i : Nat} (h : i < 14) : sIm S (20 + i) = S (0 + i) := by
  funext y z
  show (if 20 + i = 18 ∧ y = 0 ∧ z = 0 then 1 else if 20 ≤ 20 + i ∧ 20 + i < 34 then S (20 + i - 20) y z else S (20 + i) y z) = _
  rw [if_neg (by omega), if_pos (by omega), show 20 + i - 20 = 0 + i by omega]
theorem sRe_o (S : am_St) {i : Nat} (h : ¬ i < 14) : sRe S i = S i := by
  funext y z
  exact if_neg h
theorem sRe_k (S : am_St) {i : Nat} (h : i < 14) : sRe S (0 + i) = S (20 + i) := by
  funext y z
  show (if 0 + i < 14 then S (0 + i + 20) y z else S (0 + i) y z) = _
  rw [if_pos (by omega), show 0 + i + 20 = 20 + i by omega]
def oIma (S : am_St) : Int32 × am_St := if S 4 0 0 = 0 then (-103, S) else (nI (sSum (fun g => S 8 g 0) (S 4 0 0)), sIm S)
def oRes (S : am_St) : Int32 × am_St := if S 18 0 0 = 1 then (nI (sSum (fun g => S 28 g 0) (S 24 0 0)), sRe S) else (-103, S)
theorem oIma_ok (h : sOK N S) : sOK (N + 1) (oIma S).2 := by
  have up := sOK_up h
  unfold oIma
  split
  · exact up
  · refine ⟨wOK_S (fun i _ q => sIm_o S (by omega) (by omega)) up.1, ?_, ?_, ?_, fun _ => ⟨wOK_sh (S := S) (c := 0) (fun i hi => sIm_k S hi) up.1, rfl, fun g hg => rfl⟩⟩
    · exact up.2.1
    · exact up.2.2.1
    · show 1 ≤ 1
      omega
theorem oRes_ok (h : sOK N S) : sOK (N + 1) (oRes S).2 := by
  have up := sOK_up h
  unfold oRes
  split
  · rename_i c
    obtain ⟨a1, a2, a3⟩ := up.2.2.2.2 c
    refine ⟨wOK_sh (S := S) (c := 20) (fun i hi => sRe_k S hi) a1, ?_, ?_, ?_, fun _ => ⟨wOK_S (fun i q1 q => sRe_o S (by omega)) a1, rfl, fun g hg => rfl⟩⟩
    · exact up.2.1
    · exact up.2.2.1
    · exact up.2.2.2.1
  · exact up
theorem c203 (h : mRep S σ) (hO : sOK N S) : ∃ σ', am_v X (d + 2) 203 [.ref (66 : Nat)] σ = some (some (.int (oIma S).1), σ') ∧ mRep (oIma S).2 σ' ∧ am_pi nsC σ σ' := by
  have hF := h.1
  have hG := sO_G hO
  have ok := oIma_ok hO
  unfold oIma at *
  have e0 : (nI (S 4 0 0) = nI 0) = (S 4 0 0 = 0) := nI_EQ (by omega) (by decide)
  rw [s203]
  by_cases c : S 4 0 0 = 0
  · rw [if_pos c]
    have t : (nI (S 4 0 0) = nI 0) = True := by rw [e0]; exact eq_true c
    refine ⟨σ, ?_, h, am_pi.rf hF⟩
    simp only [s203_0, s203_1, s203_4, s203_7, s203_9, am_pu_s, am_pu_n, va_rf_s, va_rf_n, Option.bind_some, true_or, or_true, eq_self, if_true, if_false, ite_self, ite_true, ite_false, ↓reduceIte, reduceCtorEq, Nat.reduceEqDiff, Nat.reduceAdd, Nat.reduceLT, Nat.reduceLeDiff, Nat.reduceMul, Nat.reduceSub, not_true_eq_false, not_false_eq_true, and_self, and_true, true_and, and_false, false_and, hF, kd66, mR_G h, t]
  · rw [if_neg c]
    rw [if_neg c] at ok
    have t : ¬ nI (S 4 0 0) = nI 0 := by rw [e0]; exact c
    have hF0 : am_F (am_wI (am_wI (am_wI σ 66 42 (nI 1)) 66 43 (nI (S 16 0 0))) 66 44 (nI (S 10 0 0))) := hF
    obtain ⟨σ1, e1, hF1, fr, xB, xN, xD, xT, xW, xP, xO, xY, xG, xA, xV⟩ := m203_cp (X := X) (d := d + 1) hF0
    have pm : ∀ a k, a ≠ 66 → am_I (am_wI (am_wI (am_wI σ 66 42 (nI 1)) 66 43 (nI (S 16 0 0))) 66 44 (nI (S 10 0 0))) a k = am_I σ a k := fun a k q => by rw [am_I_wI, if_neg (fun e => q e.1), am_I_wI, if_neg (fun e => q e.1), am_I_wI, if_neg (fun e => q e.1)]
    have pm2 : ∀ k, ¬ k = 42 → ¬ k = 43 → ¬ k = 44 → am_I σ1 66 k = am_I σ 66 k := fun k q1 q2 q3 => by rw [fr 66 k (by omega), am_I_wI, if_neg (fun e => q3 e.2), am_I_wI, if_neg (fun e => q2 e.2), am_I_wI, if_neg (fun e => q1 e.2)]
    have st : ∀ a k, a < 89 → a ≠ 66 → am_I σ1 a k = am_I σ a k := fun a k q1 q2 => by rw [fr a k (by omega), pm a k q2]
    obtain ⟨_, h2, h3, h4, h5, h6, h7, h8, _, _⟩ := h
    have h' : mRep (sIm S) σ1 := by
      refine ⟨hF1, mWld_S (fun i _ q => sIm_o S (by omega) (by omega)) (h2.pr fun a k ha => ?_), fun g hg => ?_, ?_, ?_, ⟨?_, fun j hj => ?_⟩, ?_, ?_, fun _ => ⟨mWld_sh (S := S) (c := 0) (fun i hi => sIm_k S hi) (mWld_cp h2 (fun j hj => by rw [xB j hj, pm _ _ (by decide)]) (fun j hj => by rw [xN j hj, pm _ _ (by decide)]) (fun j hj => by rw [xD j hj, pm _ _ (by decide)]) (fun j hj => by rw [xT j hj, pm _ _ (by decide)]) (fun j hj => by rw [xW j hj, pm _ _ (by decide)]) (fun j hj => by rw [xP j hj, pm _ _ (by decide)]) (fun j hj => by rw [xO j hj, pm _ _ (by decide)]) (fun j hj => by rw [xY j hj, pm _ _ (by decide)]) (fun j hj => by rw [xG j hj, pm _ _ (by decide)]) (fun j hj => by rw [xA j hj, pm _ _ (by decide)]) (fun j hj => by rw [xV j hj, pm _ _ (by decide)])), ?_, ?_, ?_⟩, fun q => absurd (show sIm S 18 0 0 = 1 from rfl) q⟩
      · simp at ha
        exact st a k (by omega) (by omega)
      · rw [st _ _ (by omega) (by omega)]; exact h3 g hg
      · rw [pm2 _ (by decide) (by decide) (by decide)]; exact h4
      · rw [pm2 _ (by decide) (by decide) (by decide)]; exact h5
      · rw [pm2 _ (by decide) (by decide) (by decide)]; exact h6.1
      · rw [st _ _ (by omega) (by omega)]; exact h6.2 j hj
      · rw [pm2 _ (by decide) (by decide) (by decide)]; exact h7
      · rw [pm2 _ (by decide) (by decide) (by decide)]; exact h8
      · rw [fr 66 42 (by omega), am_I_wI, if_neg (by omega), am_I_wI, if_neg (by omega), am_I_wI, if_pos ⟨rfl, rfl⟩]
      · rw [fr 66 43 (by omega), am_I_wI, if_neg (by omega), am_I_wI, if_pos ⟨rfl, rfl⟩]; rfl
      · rw [fr 66 44 (by omega), am_I_wI, if_pos ⟨rfl, rfl⟩]; rfl
    refine ⟨σ1, ?_, h', ⟨hF1, fun a k q => ?_⟩⟩
    · have e2 := m202 (X := X) (d := d) h' ok
      simp only [s203_0, s203_1, s203_4, s203_7, s203_9, s203_10, s203_11, s203_12, s203_15, s203_16, s203_17, s203_20, s203_23, s203_24, s203_25, s203_28, s203_31, s203_32, am_pu_s, am_pu_n, va_rf_s, va_rf_n, Option.bind_some, true_or, or_true, eq_self, if_true, if_false, ite_self, ite_true, ite_false, ↓reduceIte, reduceCtorEq, Nat.reduceEqDiff, Nat.reduceAdd, Nat.reduceLT, Nat.reduceLeDiff, Nat.reduceMul, Nat.reduceSub, not_true_eq_false, not_false_eq_true, and_self, and_true, true_and, and_false, false_and, am_I_wI, am_I_wJ, am_J_wI, am_J_wJ, am_R_wI, am_R_wJ, am_kd_wI, am_kd_wJ, am_ln_wI, am_ln_wJ, am_ix_wI, am_ix_wJ, am_F_wI, am_F_wJ, am_I_wC, am_J_wC, am_R_wC, am_kd_wC, am_ln_wC, am_ix_wC, am_F_wC, hF, kd66, h4, h5, h7, t]
      refine Eq.trans e1 ?_
      simp only [s203_219, s203_220, s203_223, am_pu_s, am_pu_n, va_rf_s, va_rf_n, Option.bind_some, true_or, or_true, eq_self, if_true, if_false, ite_self, ite_true, ite_false, ↓reduceIte, reduceCtorEq, Nat.reduceEqDiff, Nat.reduceAdd, Nat.reduceLT, Nat.reduceLeDiff, Nat.reduceMul, Nat.reduceSub, not_true_eq_false, not_false_eq_true, and_self, and_true, true_and, and_false, false_and, hF1, kd66, e2]
      rfl
    · have hlt : a < 66 := by
        unfold nsC at q
        by_cases q1 : a < 54
        · omega
        · have b1 : Nat.blt a 3 = false := by
            cases hb : Nat.blt a 3 with
            | false => rfl
            | true => exact absurd (Nat.le_of_ble_eq_true hb : a + 1 ≤ 3) (by omega)
          have b2 : Nat.blt a 54 = false := by
            cases hb : Nat.blt a 54 with
            | false => rfl
            | true => exact absurd (Nat.le_of_ble_eq_true hb : a + 1 ≤ 54) (by omega)
          rw [b1, b2, Bool.and_false, Bool.false_or] at q
          cases q
      exact st a k (by omega) (by omega)
theorem nsC_lt {a k : Nat} (q : nsC a k = true) : a < 54 := by
  unfold nsC at q
  by_cases q1 : a < 54
  · exact q1
  · have b1 : Nat.blt a 3 = false := by
      cases hb : Nat.blt a 3 with
      | false => rfl
      | true => exact absurd (Nat.le_of_ble_eq_true hb : a + 1 ≤ 3) (by omega)
    have b2 : Nat.blt a 54 = false := by
      cases hb : Nat.blt a 54 with
      | false => rfl
      | true => exact absurd (Nat.le_of_ble_eq_true hb : a + 1 ≤ 54) (by omega)
    rw [b1, b2, Bool.and_false, Bool.false_or] at q
    cases q
theorem nsM_ge {a k : Nat} (q : nsM a k = true) : 66 ≤ a := by
  by_cases h : 66 ≤ a
  · exact h
  · unfold nsM at q
    have b1 : Nat.ble 67 a = false := by
      cases hb : Nat.ble 67 a with
      | false => rfl
      | true => exact absurd (Nat.le_of_ble_eq_true hb) (by omega)
    have b2 : Nat.ble 89 a = false := by
      cases hb : Nat.ble 89 a with
      | false => rfl
      | true => exact absurd (Nat.le_of_ble_eq_true hb) (by omega)
    have b3 : Nat.beq a 66 = false := by
      cases hb : Nat.beq a 66 with
      | false => rfl
      | true => exact absurd (Nat.eq_of_beq_eq_true hb) (by omega)
    rw [b1, b2, b3, Bool.false_and, Bool.false_and, Bool.false_or, Bool.false_or] at q
    cases q
theorem c204 (h : mRep S σ) (hO : sOK N S) (hN : N < 1000) : ∃ σ', am_v X (d + 2) 204 [.ref (66 : Nat)] σ = some (some (.int (oRes S).1), σ') ∧ mRep (oRes S).2 σ' ∧ am_pi nsC σ σ' := by
  have hF := h.1
  have ok := oRes_ok hO
  have h16 := hO.2.2.1
  have r4 : am_I σ 66 4 = nI (S 16 0 0) := h.2.2.2.2.2.2.1
  unfold oRes at *
  rw [s204]
  by_cases c : S 18 0 0 = 1
  · rw [if_pos c]
    rw [if_pos c] at ok
    obtain ⟨k1, k2, k3, k4⟩ := h.2.2.2.2.2.2.2.2.1 c
    have hF0 : am_F (am_wI σ 66 12 (nI (S 30 0 0))) := hF
    obtain ⟨σ1, e1, hF1, fr, xB, xN, xD, xT, xW, xP, xO, xY, xG, xA, xV⟩ := m204_cp (X := X) (d := d + 1) hF0
    have pm : ∀ a k, a ≠ 66 → am_I (am_wI σ 66 12 (nI (S 30 0 0))) a k = am_I σ a k := fun a k q => by rw [am_I_wI, if_neg (fun e => q e.1)]
    have pm2 : ∀ k, ¬ k = 12 → am_I σ1 66 k = am_I σ 66 k := fun k q1 => by rw [fr 66 k (by omega), am_I_wI, if_neg (fun e => q1 e.2)]
    have st : ∀ a k, (a = 70 ∨ a = 79 ∨ 89 ≤ a ∨ a < 66) → am_I σ1 a k = am_I σ a k := fun a k q1 => by rw [fr a k (by omega), pm a k (by omega)]
    have hkk := hO.2.2.2.2 c
    obtain ⟨_, h2, h3, h4, h5, h6, h7, h8, _, _⟩ := h
    have h' : mRep (sRe S) σ1 := by
      refine ⟨hF1, mWld_sh (S := S) (c := 20) (fun i hi => sRe_k S hi) (mWld_cp k1 (fun j hj => by rw [xB j hj, pm _ _ (by decide)]) (fun j hj => by rw [xN j hj, pm _ _ (by decide)]) (fun j hj => by rw [xD j hj, pm _ _ (by decide)]) (fun j hj => by rw [xT j hj, pm _ _ (by decide)]) (fun j hj => by rw [xW j hj, pm _ _ (by decide)]) (fun j hj => by rw [xP j hj, pm _ _ (by decide)]) (fun j hj => by rw [xO j hj, pm _ _ (by decide)]) (fun j hj => by rw [xY j hj, pm _ _ (by decide)]) (fun j hj => by rw [xG j hj, pm _ _ (by decide)]) (fun j hj => by rw [xA j hj, pm _ _ (by decide)]) (fun j hj => by rw [xV j hj, pm _ _ (by decide)])), fun g hg => ?_, ?_, ?_, ⟨?_, fun j hj => ?_⟩, ?_, ?_, fun _ => ⟨mWld_S (fun i q1 q => sRe_o S (by omega)) (k1.pr fun a k ha => ?_), ?_, ?_, ?_⟩, fun q => absurd (show sRe S 18 0 0 = 1 from c) q⟩
      · rw [st _ _ (by omega)]
        have e : sRe S 5 g 0 = S 25 g 0 := rfl
        rw [e, hkk.2.2 g hg]
        exact h3 g hg
      · rw [pm2 _ (by decide)]
        have e : sRe S 4 0 0 = S 24 0 0 := rfl
        rw [e, hkk.2.1]
        exact h4
      · rw [fr 66 12 (by omega), am_I_wI, if_pos ⟨rfl, rfl⟩]; rfl
      · rw [pm2 _ (by decide)]; exact h6.1
      · rw [st _ _ (by omega)]; exact h6.2 j hj
      · rw [pm2 _ (by decide)]; exact h7
      · rw [pm2 _ (by decide)]; exact h8
      · simp at ha
        exact st a k (by omega)
      · rw [pm2 _ (by decide)]; exact k2
      · rw [pm2 _ (by decide)]; exact k3
      · rw [pm2 _ (by decide)]; exact k4
    refine ⟨σ1, ?_, h', ⟨hF1, fun a k q => st a k (by have := nsC_lt q; omega)⟩⟩
    have e2 := m202 (X := X) (d := d) h' ok
    simp only [s204_0, s204_1, s204_4, s204_7, s204_8, s204_11, s204_12, s204_15, s204_18, s204_20, s204_21, s204_22, s204_23, s204_26, s204_29, s204_30, am_pu_s, am_pu_n, va_rf_s, va_rf_n, Option.bind_some, true_or, or_true, eq_self, if_true, if_false, ite_self, ite_true, ite_false, ↓reduceIte, reduceCtorEq, Nat.reduceEqDiff, Nat.reduceAdd, Nat.reduceLT, Nat.reduceLeDiff, Nat.reduceMul, Nat.reduceSub, not_true_eq_false, not_false_eq_true, and_self, and_true, true_and, and_false, false_and, am_I_wI, am_I_wJ, am_J_wI, am_J_wJ, am_R_wI, am_R_wJ, am_kd_wI, am_kd_wJ, am_ln_wI, am_ln_wJ, am_ix_wI, am_ix_wJ, am_F_wI, am_F_wJ, am_I_wC, am_J_wC, am_R_wC, am_kd_wC, am_ln_wC, am_ix_wC, am_F_wC, hF, kd66, k2, k3, k4, r4, nI_10]
    refine Eq.trans e1 ?_
    simp only [s204_217, s204_218, s204_221, am_pu_s, am_pu_n, va_rf_s, va_rf_n, Option.bind_some, true_or, or_true, eq_self, if_true, if_false, ite_self, ite_true, ite_false, ↓reduceIte, reduceCtorEq, Nat.reduceEqDiff, Nat.reduceAdd, Nat.reduceLT, Nat.reduceLeDiff, Nat.reduceMul, Nat.reduceSub, not_true_eq_false, not_false_eq_true, and_self, and_true, true_and, and_false, false_and, hF1, kd66, e2]
    rfl
  · rw [if_neg c]
    refine ⟨σ, ?_, h, am_pi.rf hF⟩
    rcases h.2.2.2.2.2.2.2.2.2 c with q | ⟨q, r, hr, q2⟩
    · simp only [s204_0, s204_1, s204_4, s204_7, s204_8, s204_11, s204_12, s204_15, s204_18, s204_20, am_pu_s, am_pu_n, va_rf_s, va_rf_n, Option.bind_some, true_or, or_true, eq_self, if_true, if_false, ite_self, ite_true, ite_false, ↓reduceIte, reduceCtorEq, Nat.reduceEqDiff, Nat.reduceAdd, Nat.reduceLT, Nat.reduceLeDiff, Nat.reduceMul, Nat.reduceSub, not_true_eq_false, not_false_eq_true, and_self, and_true, true_and, and_false, false_and, hF, kd66, q]
    · have t : ¬ nI r = nI (S 16 0 0) := by rw [nI_EQ (by omega) (by omega)]; omega
      simp only [s204_0, s204_1, s204_4, s204_7, s204_8, s204_11, s204_12, s204_15, s204_18, s204_20, am_pu_s, am_pu_n, va_rf_s, va_rf_n, Option.bind_some, true_or, or_true, eq_self, if_true, if_false, ite_self, ite_true, ite_false, ↓reduceIte, reduceCtorEq, Nat.reduceEqDiff, Nat.reduceAdd, Nat.reduceLT, Nat.reduceLeDiff, Nat.reduceMul, Nat.reduceSub, not_true_eq_false, not_false_eq_true, and_self, and_true, true_and, and_false, false_and, hF, kd66, q, nI_10, q2, r4, t]
/-! the class' image and restore -/
theorem m50 {o p : Nat} (hF : am_F σ) (ho : isTu o) (hp : isTu p) : am_v X (d + 1) 50 [.ref o, .ref p] σ = some (none, am_wC (am_wC (am_wI (am_wI σ o 2 (am_I σ p 2)) o 3 (am_I σ p 3)) (p + 1) (o + 1) 0 0 60) (p + 2) (o + 2) 0 0 4) := by
  have f0 : (nI 0).toNatClampNeg = 0 := nI_c0
  have f60 : (nI 60).toNatClampNeg = 60 := nI_cl (by decide)
  have kp1 := kdB hF hp
  have ko1 := kdB hF ho
  have kp2 := kdW hF hp
  have ko2 := kdW hF ho
  have e28 := s50_28 (X := X) (d := d) (L := [some (.ref o), some (.ref p)]) (a := p + 1) (b := o + 1) (i := nI 0) (j := nI 0) (n := nI 60) (σ := am_wI (am_wI σ o 2 (am_I σ p 2)) o 3 (am_I σ p 3)) ⟨kp1.1, ko1.1, Or.inl rfl, by decide +kernel, by decide +kernel, by decide +kernel, by rw [f0, f60]; show 0 + 60 ≤ am_ln σ (p + 1); rw [kp1.2]; decide, by rw [f0, f60]; show 0 + 60 ≤ am_ln σ (o + 1); rw [ko1.2]; decide⟩
  have e42 := s50_42 (X := X) (d := d) (L := [some (.ref o), some (.ref p)]) (a := p + 2) (b := o + 2) (i := nI 0) (j := nI 0) (n := nI 4) (σ := am_wC (am_wI (am_wI σ o 2 (am_I σ p 2)) o 3 (am_I σ p 3)) (p + 1) (o + 1) 0 0 60) ⟨kp2.1, ko2.1, Or.inl rfl, by decide +kernel, by decide +kernel, by decide +kernel, by rw [f0, nI_c4]; show 0 + 4 ≤ am_ln σ (p + 2); rw [kp2.2]; decide, by rw [f0, nI_c4]; show 0 + 4 ≤ am_ln σ (o + 2); rw [ko2.2]; decide⟩
  rw [f0, f60] at e28
  rw [f0, nI_c4] at e42
  rw [s50]
  simp only [s50_0, s50_1, s50_2, s50_5, s50_8, s50_9, s50_10, s50_13, s50_16, s50_17, s50_20, s50_21, s50_22, s50_25, s50_26, s50_31, s50_32, s50_35, s50_36, s50_37, s50_40, s50_41, s50_45, e28, e42, am_pu_s, am_pu_n, va_rf_s, va_rf_n, Option.bind_some, true_or, or_true, eq_self, if_true, if_false, ite_self, ite_true, ite_false, ↓reduceIte, reduceCtorEq, Nat.reduceEqDiff, Nat.reduceAdd, Nat.reduceLT, Nat.reduceLeDiff, Nat.reduceMul, Nat.reduceSub, not_true_eq_false, not_false_eq_true, and_self, and_true, true_and, and_false, false_and, am_I_wI, am_I_wJ, am_J_wI, am_J_wJ, am_R_wI, am_R_wJ, am_kd_wI, am_kd_wJ, am_ln_wI, am_ln_wJ, am_ix_wI, am_ix_wJ, am_F_wI, am_F_wJ, am_I_wC, am_J_wC, am_R_wC, am_kd_wC, am_ln_wC, am_ix_wC, am_F_wC, hF, kdT hF ho, kdT hF hp, rT0 hF ho, rT0 hF hp, rT1 hF ho, rT1 hF hp]
theorem m6 {o p : Nat} (hF : am_F σ) (ho : isGa o) (hp : isGa p) : am_v X (d + 1) 6 [.ref o, .ref p] σ = some (none, am_wI (am_wI (am_wI (am_wI (am_wI σ o 1 (am_I σ p 1)) o 2 (am_I σ p 2)) o 3 (am_I σ p 3)) o 4 (am_I σ p 4)) o 5 (am_I σ p 5)) := by
  rw [s6]
  simp only [s6_0, s6_1, s6_2, s6_5, s6_8, s6_9, s6_10, s6_13, s6_16, s6_17, s6_18, s6_21, s6_24, s6_25, s6_26, s6_29, s6_32, s6_33, s6_34, s6_37, s6_40, am_pu_s, am_pu_n, va_rf_s, va_rf_n, Option.bind_some, true_or, or_true, eq_self, if_true, if_false, ite_self, ite_true, ite_false, ↓reduceIte, reduceCtorEq, Nat.reduceEqDiff, Nat.reduceAdd, Nat.reduceLT, Nat.reduceLeDiff, Nat.reduceMul, Nat.reduceSub, not_true_eq_false, not_false_eq_true, and_self, and_true, true_and, and_false, false_and, am_I_wI, am_I_wJ, am_J_wI, am_J_wJ, am_R_wI, am_R_wJ, am_kd_wI, am_kd_wJ, am_ln_wI, am_ln_wJ, am_ix_wI, am_ix_wJ, am_F_wI, am_F_wJ, am_I_wC, am_J_wC, am_R_wC, am_kd_wC, am_ln_wC, am_ix_wC, am_F_wC, hF, kdG hF ho, kdG hF hp]
theorem kdS {o : Nat} (hF : am_F σ) (ho : isWo o) : am_kd σ (o + 3) = 6 ∧ am_R σ (o + 3) 0 = some (o + 4) ∧ am_R σ (o + 3) 1 = some (o + 5) ∧ am_R σ (o + 3) 2 = some (o + 6) := by
  rcases ho with rfl | rfl
  · exact ⟨kd11 hF, rr11_0 hF, rr11_1 hF, rr11_2 hF⟩
  · exact ⟨kd34 hF, rr34_0 hF, rr34_1 hF, rr34_2 hF⟩
theorem kdS2 {o : Nat} (hF : am_F σ) (ho : isWo o) : (am_kd σ (o + 4) = 20 ∧ am_ln σ (o + 4) = 8) ∧ (am_kd σ (o + 5) = 20 ∧ am_ln σ (o + 5) = 8) ∧ (am_kd σ (o + 6) = 22 ∧ am_ln σ (o + 6) = 8) := by
  rcases ho with rfl | rfl
  · exact ⟨⟨kd12 hF, ln12 hF⟩, ⟨kd13 hF, ln13 hF⟩, ⟨kd14 hF, ln14 hF⟩⟩
  · exact ⟨⟨kd35 hF, ln35 hF⟩, ⟨kd36 hF, ln36 hF⟩, ⟨kd37 hF, ln37 hF⟩⟩
theorem m41 {o p : Nat} (hF : am_F σ) (ho : isWo o) (hp : isWo p) (hop : ¬ o = p) (h01 : ∀ j, j < 8 → am_I σ (p + 6) j = nI 0 ∨ am_I σ (p + 6) j = nI 1) : ∃ σ', am_v X (d + 1) 41 [.ref (o + 3), .ref (p + 3)] σ = some (none, σ') ∧ am_F σ' ∧ am_I σ' (o + 3) 3 = am_I σ (p + 3) 3 ∧ (∀ a k, ¬ (a = o + 3 ∧ k = 3) → ¬ a = o + 4 → ¬ a = o + 5 → ¬ a = o + 6 → am_I σ' a k = am_I σ a k) ∧ ∀ j, j < 8 → am_I σ' (o + 4) j = am_I σ (p + 4) j ∧ am_I σ' (o + 5) j = am_I σ (p + 5) j ∧ am_I σ' (o + 6) j = am_I σ (p + 6) j := by
  obtain ⟨ko, r0, r1, r2⟩ := kdS hF ho
  obtain ⟨kp, q0, q1, q2⟩ := kdS hF hp
  have hop2 : (o = 8 ∧ p = 31) ∨ (o = 31 ∧ p = 8) := by
    rcases ho with ho | ho <;> rcases hp with hp | hp <;> omega
  have nar : ∀ v, v = nI 0 ∨ v = nI 1 → vp_nar .boolean v = v := fun v q => by
    rcases q with rfl | rfl <;> decide +kernel
  have ixS : ∀ {σ1 : am_M} {q k : Nat}, am_F σ1 → isWo q → k < 8 → am_ix σ1 20 (q + 4) (nI k) = true ∧ am_ix σ1 20 (q + 5) (nI k) = true ∧ am_ix σ1 22 (q + 6) (nI k) = true := fun h1 hq hk => by
    obtain ⟨⟨a1, a2⟩, ⟨a3, a4⟩, ⟨a5, a6⟩⟩ := kdS2 h1 hq
    exact ⟨am_ixN a1 a2 hk (by decide), am_ixN a3 a4 hk (by decide), am_ixN a5 a6 hk (by decide)⟩
  have loop : ∀ n k σ1, k + n = 8 → am_F σ1 → am_I σ1 (o + 3) 3 = am_I σ (p + 3) 3 → (∀ a k, ¬ (a = o + 3 ∧ k = 3) → ¬ a = o + 4 → ¬ a = o + 5 → ¬ a = o + 6 → am_I σ1 a k = am_I σ a k) → (∀ j, j < k → am_I σ1 (o + 4) j = am_I σ (p + 4) j ∧ am_I σ1 (o + 5) j = am_I σ (p + 5) j ∧ am_I σ1 (o + 6) j = am_I σ (p + 6) j) → ∃ σ', am_w X d 41 10 [some (.ref (o + 3)), some (.ref (p + 3)), some (.int (nI k))] [] σ1 = some (none, σ') ∧ am_F σ' ∧ am_I σ' (o + 3) 3 = am_I σ (p + 3) 3 ∧ (∀ a k, ¬ (a = o + 3 ∧ k = 3) → ¬ a = o + 4 → ¬ a = o + 5 → ¬ a = o + 6 → am_I σ' a k = am_I σ a k) ∧ ∀ j, j < 8 → am_I σ' (o + 4) j = am_I σ (p + 4) j ∧ am_I σ' (o + 5) j = am_I σ (p + 5) j ∧ am_I σ' (o + 6) j = am_I σ (p + 6) j := by
    intro n
    induction n with
    | zero =>
      intro k σ1 hk hF1 t1 t2 t3
      have hk : k = 8 := by omega
      subst hk
      refine ⟨σ1, ?_, hF1, t1, t2, t3⟩
      have c1 : nI 8 ≤ nI 8 := Int32.le_refl _
      rw [s41_10]
      simp only [s41_11, s41_13, s41_58, am_pu_s, am_pu_n, va_rf_s, va_rf_n, Option.bind_some, true_or, or_true, eq_self, if_true, if_false, ite_self, ite_true, ite_false, ↓reduceIte, reduceCtorEq, Nat.reduceEqDiff, Nat.reduceAdd, Nat.reduceLT, Nat.reduceLeDiff, Nat.reduceMul, Nat.reduceSub, not_true_eq_false, not_false_eq_true, and_self, and_true, true_and, and_false, false_and, c1]
    | succ n ih =>
      intro k σ1 hk hF1 t1 t2 t3
      have hk8 : k < 8 := by omega
      have c0 : ¬ nI 8 ≤ nI k := nI_ge hk8 (by decide)
      have nk := nI_cl (show k < 2147483648 by omega)
      obtain ⟨ko1, r01, r11, r21⟩ := kdS hF1 ho
      obtain ⟨kp1, q01, q11, q21⟩ := kdS hF1 hp
      obtain ⟨x1, x2, x3⟩ := ixS hF1 ho hk8
      obtain ⟨y1, y2, y3⟩ := ixS hF1 hp hk8
      have v1 : am_I σ1 (p + 4) k = am_I σ (p + 4) k := t2 _ _ (by omega) (by omega) (by omega) (by omega)
      have v2 : am_I (am_wI σ1 (o + 4) k (am_I σ (p + 4) k)) (p + 5) k = am_I σ (p + 5) k := by
        rw [am_I_wI, if_neg (by omega)]
        exact t2 _ _ (by omega) (by omega) (by omega) (by omega)
      have v3 : am_I (am_wI (am_wI σ1 (o + 4) k (am_I σ (p + 4) k)) (o + 5) k (am_I σ (p + 5) k)) (p + 6) k = am_I σ (p + 6) k := by
        rw [am_I_wI, if_neg (by omega), am_I_wI, if_neg (by omega)]
        exact t2 _ _ (by omega) (by omega) (by omega) (by omega)
      have nz := nar _ (h01 k hk8)
      have hF4 : am_F (am_wI (am_wI (am_wI σ1 (o + 4) k (am_I σ (p + 4) k)) (o + 5) k (am_I σ (p + 5) k)) (o + 6) k (am_I σ (p + 6) k)) := hF1
      obtain ⟨σ', e1, e2⟩ := ih (k + 1) _ (by omega) hF4 (by rw [am_I_wI, if_neg (by omega), am_I_wI, if_neg (by omega), am_I_wI, if_neg (by omega)]; exact t1) (fun a j z1 z2 z3 z4 => by rw [am_I_wI, if_neg (fun q => z4 q.1), am_I_wI, if_neg (fun q => z3 q.1), am_I_wI, if_neg (fun q => z2 q.1)]; exact t2 a j z1 z2 z3 z4) (fun j hj => by
        by_cases e : j = k
        · subst e
          refine ⟨?_, ?_, ?_⟩
          · rw [am_I_wI, if_neg (by omega), am_I_wI, if_neg (by omega), am_I_wI, if_pos ⟨rfl, rfl⟩]
          · rw [am_I_wI, if_neg (by omega), am_I_wI, if_pos ⟨rfl, rfl⟩]
          · rw [am_I_wI, if_pos ⟨rfl, rfl⟩]
        · obtain ⟨w1, w2, w3⟩ := t3 j (by omega)
          refine ⟨?_, ?_, ?_⟩
          · rw [am_I_wI, if_neg (by omega), am_I_wI, if_neg (by omega), am_I_wI, if_neg (by omega)]; exact w1
          · rw [am_I_wI, if_neg (by omega), am_I_wI, if_neg (by omega), am_I_wI, if_neg (by omega)]; exact w2
          · rw [am_I_wI, if_neg (by omega), am_I_wI, if_neg (by omega), am_I_wI, if_neg (by omega)]; exact w3)
      refine ⟨σ', ?_, e2⟩
      rw [s41_10]
      simp only [s41_11, s41_13, s41_16, s41_17, s41_20, s41_21, s41_22, s41_25, s41_26, s41_27, s41_28, s41_29, s41_32, s41_33, s41_34, s41_37, s41_38, s41_39, s41_40, s41_41, s41_44, s41_45, s41_46, s41_49, s41_50, s41_51, s41_52, s41_55, am_pu_s, am_pu_n, va_rf_s, va_rf_n, Option.bind_some, true_or, or_true, eq_self, if_true, if_false, ite_self, ite_true, ite_false, ↓reduceIte, reduceCtorEq, Nat.reduceEqDiff, Nat.reduceAdd, Nat.reduceLT, Nat.reduceLeDiff, Nat.reduceMul, Nat.reduceSub, not_true_eq_false, not_false_eq_true, and_self, and_true, true_and, and_false, false_and, am_kd_wI, am_R_wI, am_ix_wI, c0, ko1, kp1, r01, r11, r21, q01, q11, q21, x1, x2, x3, y1, y2, y3, nk, v1, v2, v3, nz, nI_add]
      exact e1
  obtain ⟨σ', e1, e2⟩ := loop 8 0 (am_wI σ (o + 3) 3 (am_I σ (p + 3) 3)) (by omega) hF (by rw [am_I_wI, if_pos ⟨rfl, rfl⟩]) (fun a k z1 _ _ _ => by rw [am_I_wI, if_neg z1]) (fun j hj => absurd hj (by omega))
  refine ⟨σ', ?_, e2⟩
  rw [s41]
  simp only [s41_0, s41_1, s41_2, s41_5, s41_8, s41_9, am_pu_s, am_pu_n, va_rf_s, va_rf_n, Option.bind_some, true_or, or_true, eq_self, if_true, if_false, ite_self, ite_true, ite_false, ↓reduceIte, reduceCtorEq, Nat.reduceEqDiff, Nat.reduceAdd, Nat.reduceLT, Nat.reduceLeDiff, Nat.reduceMul, Nat.reduceSub, not_true_eq_false, not_false_eq_true, and_self, and_true, true_and, and_false, false_and, ko, kp]
  exact e1
end MU
