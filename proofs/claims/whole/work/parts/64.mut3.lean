/-! go, see, burn: steps of the state -/
def sV (S : am_St) (b g v : Nat) : am_St := fun x y z => if x = 3 ∧ y = b ∧ z = g then v else S x y z
theorem sV_o (S : am_St) {b g v j : Nat} (h : ¬ j = 3) : sV S b g v j = S j := by
  funext y z
  exact if_neg fun q => h q.1
theorem sV_3 (S : am_St) (b g v y z : Nat) : sV S b g v 3 y z = if y = b ∧ z = g then v else S 3 y z := by
  show (if 3 = 3 ∧ y = b ∧ z = g then v else S 3 y z) = _
  by_cases h : y = b ∧ z = g
  · rw [if_pos ⟨rfl, h⟩, if_pos h]
  · rw [if_neg (fun q => h q.2), if_neg h]
section MU
variable {X : am_X} {d N : Nat} {σ σ' : am_M} {S S' : am_St} {v w : Int32}
theorem sOK_m (h : sOK N S) (e : ∀ i, 14 ≤ i → S' i = S i) (e4 : S' 4 = S 4) (e5 : S' 5 = S 5) (W : wOK S' 0) : sOK N S' := by
  have hk := sOK_K (S' := S') h (fun i q => e i (by omega)) e4 e5
  obtain ⟨_, h2, h3, _, _⟩ := h
  refine ⟨W, ?_, ?_, hk.1, hk.2⟩
  · rw [e 14 (by omega), e 15 (by omega)]; exact h2
  · rw [e 16 (by omega)]; exact h3
theorem cRep_we (h : cRep S σ) {b g x : Nat} (hb : b < 4) (hg : g < 4) : cRep (sV S b g x) (am_wI σ (15 + 3 * b + 2) g (nI x)) := by
  refine cRep_n h (fun j q => sV_o S (by omega)) h.1 ?_ (fun a k q => by rw [am_I_wI, if_neg (by omega)])
  obtain ⟨w1, w2, w3, w4⟩ := h.2.1
  have e : ∀ j, ¬ j = 3 → sV S b g x j = S j := fun j q => sV_o S q
  refine ⟨?_, fun b' hb' => ⟨⟨?_, fun j hj => ?_, fun g' hg' => ?_⟩, fun q => ?_⟩, fun g' hg' => ?_, ?_, fun j hj => ?_⟩
  · rw [am_I_wI, if_neg (by omega), e _ (by omega)]; exact w1
  · rw [am_I_wI, if_neg (by omega), e _ (by omega)]; exact (w2 b' hb').1.1
  · rw [am_I_wI, if_neg (by omega), e _ (by omega)]; exact (w2 b' hb').1.2.1 j hj
  · show _ = nI (sV S b g x 3 b' g')
    rw [am_I_wI, sV_3]
    by_cases c : b' = b ∧ g' = g
    · rw [if_pos (by omega), if_pos c]
    · rw [if_neg (by omega), if_neg c]
      exact (w2 b' hb').1.2.2 g' hg'
  · rw [e _ (by omega)] at q
    rw [am_I_wI, if_neg (by omega), e _ (by omega)]; exact (w2 b' hb').2 q
  · rw [e _ (by omega), e _ (by omega), e _ (by omega), e _ (by omega), e _ (by omega)]
    exact (w3 g' hg').pr fun j => by rw [am_I_wI, if_neg (by omega)]
  · rw [am_I_wI, if_neg (by omega), e _ (by omega)]; exact w4.1
  · rw [am_I_wI, if_neg (by omega), am_I_wI, if_neg (by omega), am_I_wI, if_neg (by omega), e _ (by omega), e _ (by omega), e _ (by omega)]; exact w4.2 j hj
theorem mRep_we (h : mRep S σ) {b g x : Nat} (hb : b < 4) (hg : g < 4) : mRep (sV S b g x) (am_wI σ 75 (4 * b + g) (nI x)) := by
  have e : ∀ j, ¬ j = 3 → sV S b g x j = S j := fun j q => sV_o S q
  refine mRep_n h (fun j q => e j (by omega)) (e _ (by omega)) (e _ (by omega)) h.1 ?_ (by rw [am_I_wI, if_neg (by omega), e _ (by omega)]; exact mR_sn h) (fun a k q => by rw [am_I_wI, if_neg (by omega)])
  obtain ⟨w1, w2, w3⟩ := h.2.1
  refine ⟨fun b' hb' => ?_, fun g' hg' => ?_, fun j hj => ?_⟩
  · obtain ⟨a1, a2, a3, a4⟩ := w1 b' hb'
    rw [e _ (by omega), e _ (by omega), e _ (by omega)]
    refine ⟨fun j hj => by rw [am_I_wI, if_neg (by omega)]; exact a1 j hj, by rw [am_I_wI, if_neg (by omega)]; exact a2, fun q => by rw [am_I_wI, if_neg (by omega)]; exact a3 q, fun g' hg' => ?_⟩
    show _ = nI (sV S b g x 3 b' g')
    rw [am_I_wI, sV_3]
    by_cases c : b' = b ∧ g' = g
    · rw [if_pos (by omega), if_pos c]
    · rw [if_neg (by omega), if_neg c]
      exact a4 g' hg'
  · rw [am_I_wI, if_neg (by omega), am_I_wI, if_neg (by omega), am_I_wI, if_neg (by omega), am_I_wI, if_neg (by omega), e _ (by omega), e _ (by omega), e _ (by omega), e _ (by omega)]
    exact w2 g' hg'
  · rw [am_I_wI, if_neg (by omega), am_I_wI, if_neg (by omega), am_I_wI, if_neg (by omega), e _ (by omega), e _ (by omega), e _ (by omega)]
    exact w3 j hj
theorem sOK_we (h : sOK N S) {b g x : Nat} (hx : x ≤ 99) : sOK N (sV S b g x) := by
  have e : ∀ j, ¬ j = 3 → sV S b g x j = S j := fun j q => sV_o S q
  refine sOK_m h (fun j q => e j (by omega)) (e _ (by omega)) (e _ (by omega)) ?_
  obtain ⟨w1, w2, w3, w4, w5⟩ := h.1
  refine ⟨fun b' hb' => ?_, ?_, fun g' hg' => ?_, ?_, fun j hj => ?_⟩
  · rw [e _ (by omega), e _ (by omega), e _ (by omega)]
    refine ⟨(w1 b' hb').1, (w1 b' hb').2.1, (w1 b' hb').2.2.1, fun g' hg' => ?_⟩
    show sV S b g x 3 b' g' ≤ 99
    rw [sV_3]
    split
    · exact hx
    · exact (w1 b' hb').2.2.2 g' hg'
  · rw [e _ (by omega)]; exact w2
  · rw [e _ (by omega), e _ (by omega), e _ (by omega)]; exact w3 g' hg'
  · rw [e _ (by omega)]; exact w4
  · rw [e _ (by omega), e _ (by omega), e _ (by omega)]; exact w5 j hj
theorem ns_t {b k j : Nat} (hb : b < 4) (hj : j ≤ 2) : nsM (15 + 3 * b + j) k = false := by
  have h1 : b = 0 ∨ b = 1 ∨ b = 2 ∨ b = 3 := by omega
  have h2 : j = 0 ∨ j = 1 ∨ j = 2 := by omega
  rcases h1 with rfl | rfl | rfl | rfl <;> rcases h2 with rfl | rfl | rfl <;> rfl
/-! go -/
def sTk (S : am_St) (g p : Nat) : am_St := if S 6 g 0 ≤ p then sU S 8 g (S 8 g 0 + 1) else sU S 9 g (S 9 g 0 + (S 6 g 0 - p))
theorem sTk_3 (S : am_St) (g p : Nat) {j : Nat} (h8 : ¬ j = 8) (h9 : ¬ j = 9) : sTk S g p j = S j := by
  unfold sTk
  split
  · exact sU_o S h8
  · exact sU_o S h9
def oGo (S : am_St) (v w : Int32) : Int32 × am_St := match tI S v, gI S w with
  | some b, some g => if S 3 b g = 99 then (-104, S) else (nI (sPy S b g), sV (sTk S g (sPy S b g)) b g (S 3 b g + 1))
  | _, _ => (-101, S)
theorem oGo_ok (h : sOK N S) : sOK (N + 1) (oGo S v w).2 := by
  unfold oGo
  rcases tI_c S v with ⟨b, hb, rfl, h0, e⟩ | e
  · rcases gI_c (sO_G h) w with ⟨g, hg, hg4, rfl, eg⟩ | eg
    · rw [e, eg]
      dsimp only
      split
      · exact sOK_up h
      · have hw := sO_W h hb hg4
        refine sOK_we ?_ (by omega)
        unfold sTk
        split
        · exact wOK_gt h (by decide) (by decide) (fun q => absurd q (by decide)) (fun q => absurd q (by decide))
        · exact wOK_gt h (by decide) (by decide) (fun q => absurd q (by decide)) (fun q => absurd q (by decide))
    · rw [e, eg]
      exact sOK_up h
  · rw [e]
    exact sOK_up h
theorem m8 (h : cRep S σ) (hO : sOK N S) {g p : Nat} (hg : g < 4) (hp : p < 100000) : ∃ σ', am_v X (d + 1) 8 [.ref (27 + g), .int (nI p)] σ = some (none, σ') ∧ cRep (sTk S g p) σ' ∧ am_pi nsM σ σ' := by
  have hF := h.1
  have hT := sO_T hO hg
  have kd := kdG hF (isGa8 hg)
  unfold sTk
  rw [s8]
  by_cases c : S 6 g 0 ≤ p
  · rw [if_pos c]
    have t : ¬ nI p < nI (S 6 g 0) := nI_nlt c (by omega)
    refine ⟨am_wI σ (27 + g) 4 (nI (S 8 g 0 + 1)), ?_, cRep_gt (i := 8) h (by decide) (by decide) hg, (am_pi.rf hF).w (ns_g hg)⟩
    simp only [s8_0, s8_1, s8_2, s8_5, s8_8, s8_9, s8_10, s8_13, s8_14, s8_15, s8_18, s8_21, s8_22, s8_23, s8_26, s8_27, s8_30, s8_31, s8_32, s8_33, s8_36, am_pu_s, am_pu_n, va_rf_s, va_rf_n, Option.bind_some, true_or, or_true, eq_self, if_true, if_false, ite_self, ite_true, ite_false, ↓reduceIte, reduceCtorEq, Nat.reduceEqDiff, Nat.reduceAdd, Nat.reduceLT, Nat.reduceLeDiff, Nat.reduceMul, Nat.reduceSub, not_true_eq_false, not_false_eq_true, and_self, and_true, true_and, and_false, false_and, am_I_wI, am_I_wJ, am_J_wI, am_J_wJ, am_R_wI, am_R_wJ, am_kd_wI, am_kd_wJ, am_ln_wI, am_ln_wJ, am_ix_wI, am_ix_wJ, am_F_wI, am_F_wJ, am_I_wC, am_J_wC, am_R_wC, am_kd_wC, am_ln_wC, am_ix_wC, am_F_wC, kd, cR_Tl h hg, cR_Pa h hg, t, nI_add]
  · rw [if_neg c]
    have t : nI p < nI (S 6 g 0) := nI_lt (by omega) (by omega)
    refine ⟨am_wI σ (27 + g) 5 (nI (S 9 g 0 + (S 6 g 0 - p))), ?_, cRep_gt (i := 9) h (by decide) (by decide) hg, (am_pi.rf hF).w (ns_g hg)⟩
    simp only [s8_0, s8_1, s8_2, s8_5, s8_8, s8_9, s8_10, s8_13, s8_14, s8_15, s8_18, s8_21, s8_22, s8_23, s8_26, s8_27, s8_30, s8_31, s8_32, s8_33, s8_36, am_pu_s, am_pu_n, va_rf_s, va_rf_n, Option.bind_some, true_or, or_true, eq_self, if_true, if_false, ite_self, ite_true, ite_false, ↓reduceIte, reduceCtorEq, Nat.reduceEqDiff, Nat.reduceAdd, Nat.reduceLT, Nat.reduceLeDiff, Nat.reduceMul, Nat.reduceSub, not_true_eq_false, not_false_eq_true, and_self, and_true, true_and, and_false, false_and, am_I_wI, am_I_wJ, am_J_wI, am_J_wJ, am_R_wI, am_R_wJ, am_kd_wI, am_kd_wJ, am_ln_wI, am_ln_wJ, am_ix_wI, am_ix_wJ, am_F_wI, am_F_wJ, am_I_wC, am_J_wC, am_R_wC, am_kd_wC, am_ln_wC, am_ix_wC, am_F_wC, kd, cR_Tl h hg, cR_Ow h hg, t, pk_sub (show p ≤ S 6 g 0 by omega), nI_add]
theorem m53 (h : cRep S σ) {b g : Nat} (hb : b < 4) (hg : g < 4) : am_v X (d + 1) 53 [.ref (15 + 3 * b), .ref (27 + g)] σ = some (none, am_wI σ (15 + 3 * b + 2) g (nI (S 3 b g + 1))) := by
  have hF := h.1
  have hw := (cR_T h hb).2.2 g hg
  rw [s53]
  simp only [s53_0, s53_1, s53_4, s53_5, s53_8, s53_9, s53_10, s53_11, s53_12, s53_13, am_pu_s, am_pu_n, va_rf_s, va_rf_n, Option.bind_some, true_or, or_true, eq_self, if_true, if_false, ite_self, ite_true, ite_false, ↓reduceIte, reduceCtorEq, Nat.reduceEqDiff, Nat.reduceAdd, Nat.reduceLT, Nat.reduceLeDiff, Nat.reduceMul, Nat.reduceSub, not_true_eq_false, not_false_eq_true, and_self, and_true, true_and, and_false, false_and, hF, kdT hF (isTu8 hb), kdG hF (isGa8 hg), rT1 hF (isTu8 hb), cR_no h hg, ixW hF (isTu8 hb) hg, nI_cl (show g < 2147483648 by omega), hw, nI_add]
theorem c104 (h : cRep S σ) (hO : sOK N S) : ∃ σ', am_v X (d + 6) 104 [.ref (0 : Nat), .int v, .int w] σ = some (some (.int (oGo S v w).1), σ') ∧ cRep (oGo S v w).2 σ' ∧ am_pi nsM σ σ' := by
  have hF := h.1
  unfold oGo
  rw [s104]
  rcases tI_c S v with ⟨b, hb, rfl, h0, e⟩ | e
  · rcases gI_c (sO_G hO) w with ⟨g, hg, hg4, rfl, eg⟩ | eg
    · rw [e, eg]
      dsimp only
      have hW := sO_W hO hb hg4
      have m52' := fun d => m52 (X := X) (d := d) hF (isTu8 hb) (cR_T h hb) (isGa8 hg4) hg4 (cR_no h hg4)
      by_cases c : S 3 b g = 99
      · rw [if_pos c]
        have t : ¬ nI (S 3 b g) < nI 99 := nI_nlt (by omega) (by omega)
        refine ⟨σ, ?_, h, am_pi.rf hF⟩
        simp only [s104_0, s104_1, s104_4, s104_5, s104_8, s104_8n, s104_9, s104_10, s104_13, s104_14, s104_17, s104_17n, s104_19, s104_19n, s104_20n, s104_20, s104_23, s104_23n, s104_25n, s104_25, s104_28, s104_30, s104_31, s104_31n, s104_32, s104_32n, s104_34, s104_37, s104_39, s104_42, s104_44, s104_45, s104_46, s104_49, s104_49n, s104_50, s104_50n, s104_52, s104_52n, s104_54, s104_57, s104_60, s104_62, s104_62n, s104_64, s104_66, s104_69, s104_69n, s104_70, s104_70n, s104_72, s104_75, s104_77, am_pu_s, am_pu_n, va_rf_s, va_rf_n, Option.bind_some, true_or, or_true, eq_self, if_true, if_false, ite_self, ite_true, ite_false, ↓reduceIte, reduceCtorEq, Nat.reduceEqDiff, Nat.reduceAdd, Nat.reduceLT, Nat.reduceLeDiff, Nat.reduceMul, Nat.reduceSub, not_true_eq_false, not_false_eq_true, and_self, and_true, true_and, and_false, false_and, hF, kd0, rr0_2, kd8, m76s h hO hb h0, m77s h hO hg hg4, kdT hF (isTu8 hb), m52', t]
      · rw [if_neg c]
        have t : nI (S 3 b g) < nI 99 := nI_lt (by omega) (by decide)
        have hwd := sO_Wd hO hg4
        have py := sPy_le (g := g) hO hb
        obtain ⟨σ2, e2, hp2⟩ := m10 (X := X) (d := d) hF (w := S 7 g 0) (isTu8 hb) (cR_T h hb) (sO_N hO hb) (fun j hj => sO_B hO hb hj) (isGa8 hg4) hg4 (cR_no h hg4) (cR_K h hg4) (sO_K hO hg4) (by omega) (sO_W hO hb hg4)
        rw [← sPy] at e2
        have h2 := h.prA hp2
        obtain ⟨σ3, e3, h3, p3⟩ := m8 (X := X) (d := d + 4) h2 hO hg4 (show sPy S b g < 100000 by omega)
        have e4 := m53 (X := X) (d := d + 4) h3 hb hg4
        rw [sTk_3 S g _ (by decide) (by decide)] at e4
        refine ⟨_, ?_, cRep_we h3 hb hg4, (hp2.A_M.i.tr p3).w (ns_t hb (by decide))⟩
        simp only [s104_0, s104_1, s104_4, s104_5, s104_8, s104_8n, s104_9, s104_10, s104_13, s104_14, s104_17, s104_17n, s104_19, s104_19n, s104_20n, s104_20, s104_23, s104_23n, s104_25n, s104_25, s104_28, s104_30, s104_31, s104_31n, s104_32, s104_32n, s104_34, s104_37, s104_39, s104_42, s104_44, s104_45, s104_46, s104_49, s104_49n, s104_50, s104_50n, s104_52, s104_52n, s104_54, s104_57, s104_60, s104_62, s104_62n, s104_64, s104_66, s104_69, s104_69n, s104_70, s104_70n, s104_72, s104_75, s104_77, am_pu_s, am_pu_n, va_rf_s, va_rf_n, Option.bind_some, true_or, or_true, eq_self, if_true, if_false, ite_self, ite_true, ite_false, ↓reduceIte, reduceCtorEq, Nat.reduceEqDiff, Nat.reduceAdd, Nat.reduceLT, Nat.reduceLeDiff, Nat.reduceMul, Nat.reduceSub, not_true_eq_false, not_false_eq_true, and_self, and_true, true_and, and_false, false_and, hF, h2.1, h3.1, kd0, rr0_2, rr0_4, kd8, kd54, m76s h hO hb h0, m77s h hO hg hg4, kdT hF (isTu8 hb), kdT h3.1 (isTu8 hb), kdG hF (isGa8 hg4), kdG h2.1 (isGa8 hg4), cR_Wd h hg4, m52', t, e2, e3, e4]
    · rw [e, eg]
      refine ⟨σ, ?_, h, am_pi.rf hF⟩
      simp only [s104_0, s104_1, s104_4, s104_5, s104_8, s104_8n, s104_9, s104_10, s104_13, s104_14, s104_17, s104_17n, s104_19, s104_19n, s104_20n, s104_20, s104_23, s104_23n, s104_25n, s104_25, s104_28, s104_30, s104_31, s104_31n, s104_32, s104_32n, s104_34, s104_37, s104_39, s104_42, s104_44, s104_45, s104_46, s104_49, s104_49n, s104_50, s104_50n, s104_52, s104_52n, s104_54, s104_57, s104_60, s104_62, s104_62n, s104_64, s104_66, s104_69, s104_69n, s104_70, s104_70n, s104_72, s104_75, s104_77, am_pu_s, am_pu_n, va_rf_s, va_rf_n, Option.bind_some, true_or, or_true, eq_self, if_true, if_false, ite_self, ite_true, ite_false, ↓reduceIte, reduceCtorEq, Nat.reduceEqDiff, Nat.reduceAdd, Nat.reduceLT, Nat.reduceLeDiff, Nat.reduceMul, Nat.reduceSub, not_true_eq_false, not_false_eq_true, and_self, and_true, true_and, and_false, false_and, hF, kd0, rr0_2, kd8, m76s h hO hb h0, m77n h hO eg]
  · rw [e]
    refine ⟨σ, ?_, h, am_pi.rf hF⟩
    rcases gI_c (sO_G hO) w with ⟨g, hg, hg4, rfl, eg⟩ | eg
    · simp only [s104_0, s104_1, s104_4, s104_5, s104_8, s104_8n, s104_9, s104_10, s104_13, s104_14, s104_17, s104_17n, s104_19, s104_19n, s104_20n, s104_20, s104_23, s104_23n, s104_25n, s104_25, s104_28, s104_30, s104_31, s104_31n, s104_32, s104_32n, s104_34, s104_37, s104_39, s104_42, s104_44, s104_45, s104_46, s104_49, s104_49n, s104_50, s104_50n, s104_52, s104_52n, s104_54, s104_57, s104_60, s104_62, s104_62n, s104_64, s104_66, s104_69, s104_69n, s104_70, s104_70n, s104_72, s104_75, s104_77, am_pu_s, am_pu_n, va_rf_s, va_rf_n, Option.bind_some, true_or, or_true, eq_self, if_true, if_false, ite_self, ite_true, ite_false, ↓reduceIte, reduceCtorEq, Nat.reduceEqDiff, Nat.reduceAdd, Nat.reduceLT, Nat.reduceLeDiff, Nat.reduceMul, Nat.reduceSub, not_true_eq_false, not_false_eq_true, and_self, and_true, true_and, and_false, false_and, hF, kd0, rr0_2, kd8, m76n h e, m77s h hO hg hg4]
    · simp only [s104_0, s104_1, s104_4, s104_5, s104_8, s104_8n, s104_9, s104_10, s104_13, s104_14, s104_17, s104_17n, s104_19, s104_19n, s104_20n, s104_20, s104_23, s104_23n, s104_25n, s104_25, s104_28, s104_30, s104_31, s104_31n, s104_32, s104_32n, s104_34, s104_37, s104_39, s104_42, s104_44, s104_45, s104_46, s104_49, s104_49n, s104_50, s104_50n, s104_52, s104_52n, s104_54, s104_57, s104_60, s104_62, s104_62n, s104_64, s104_66, s104_69, s104_69n, s104_70, s104_70n, s104_72, s104_75, s104_77, am_pu_s, am_pu_n, va_rf_s, va_rf_n, Option.bind_some, true_or, or_true, eq_self, if_true, if_false, ite_self, ite_true, ite_false, ↓reduceIte, reduceCtorEq, Nat.reduceEqDiff, Nat.reduceAdd, Nat.reduceLT, Nat.reduceLeDiff, Nat.reduceMul, Nat.reduceSub, not_true_eq_false, not_false_eq_true, and_self, and_true, true_and, and_false, false_and, hF, kd0, rr0_2, kd8, m76n h e, m77n h hO eg]
theorem sU_id (S : am_St) (i a : Nat) : sU S i a (S i a 0) = S := by
  funext x y z
  show (if x = i ∧ y = a ∧ z = 0 then S i a 0 else S x y z) = S x y z
  by_cases h : x = i ∧ y = a ∧ z = 0
  · rw [if_pos h, h.1, h.2.1, h.2.2]
  · rw [if_neg h]
theorem c184 (h : mRep S σ) (hO : sOK N S) : ∃ σ', am_v X (d + 7) 184 [.ref (66 : Nat), .int v, .int w] σ = some (some (.int (oGo S v w).1), σ') ∧ mRep (oGo S v w).2 σ' ∧ am_pi nsC σ σ' := by
  have hF := h.1
  unfold oGo
  rw [s184]
  rcases tI_c S v with ⟨b, hb, rfl, h0, e⟩ | e
  · have h152 : ∀ d, am_v X (d + 2) 152 [.ref (66 : Nat), .int (nI b)] σ = some (some (.int (nI 1)), σ) := fun d => m152s h hO hb h0
    rcases gI_c (sO_G hO) w with ⟨g, hg, hg4, rfl, eg⟩ | eg
    · rw [e, eg]
      dsimp only
      have hW := sO_W hO hb hg4
      have hT := sO_T hO hg4
      have e99 : (nI (S 3 b g) = nI 99) = (S 3 b g = 99) := nI_EQ (by omega) (by decide)
      have h153 : ∀ d, am_v X (d + 2) 153 [.ref (66 : Nat), .int (nI g)] σ = some (some (.int (nI 1)), σ) := fun d => m153s h hO hg
      by_cases c : S 3 b g = 99
      · rw [if_pos c]
        have t : (nI (S 3 b g) = nI 99) = True := by rw [e99]; exact eq_true c
        refine ⟨σ, ?_, h, am_pi.rf hF⟩
        simp only [s184_0, s184_1, s184_2, s184_5, s184_8, s184_9, s184_10, s184_13, s184_16, s184_18, s184_19, s184_20, s184_23, s184_24, s184_25, s184_26, s184_27, s184_28, s184_29, s184_31, s184_34, s184_36, s184_37, s184_38, s184_39, s184_40, s184_43, s184_44, s184_45, s184_48, s184_49, s184_50, s184_51, s184_52, s184_53, s184_56, s184_57, s184_58, s184_61, s184_62, s184_65, s184_66, s184_67, s184_68, s184_69, s184_72, s184_73, s184_74, s184_75, s184_76, s184_77, s184_80, s184_81, s184_82, s184_85, s184_86, s184_89, s184_90, s184_93, s184_94, s184_95, s184_96, s184_97, s184_98, s184_99, s184_100, s184_103, s184_104, s184_105, s184_106, s184_107, s184_108, s184_109, s184_110, s184_111, s184_112, s184_113, s184_114, am_pu_s, am_pu_n, va_rf_s, va_rf_n, Option.bind_some, true_or, or_true, eq_self, if_true, if_false, ite_self, ite_true, ite_false, ↓reduceIte, reduceCtorEq, Nat.reduceEqDiff, Nat.reduceAdd, Nat.reduceLT, Nat.reduceLeDiff, Nat.reduceMul, Nat.reduceSub, not_true_eq_false, not_false_eq_true, and_self, and_true, true_and, and_false, false_and, hF, kd66, h152, h153, nI_10, rr66_11, nI_2W, ix75 hF (show 4 * b + g < 16 by omega), nI_cl (show 4 * b + g < 2147483648 by omega), mR_W h hb hg4, t]
      · rw [if_neg c]
        have t : ¬ nI (S 3 b g) = nI 99 := by rw [e99]; exact c
        have py := sPy_le (g := g) hO hb
        obtain ⟨σ2, e2, hp2⟩ := m176 (X := X) (d := d) h hO hb hg4
        rw [← sPy] at e2
        have h2 := h.prA hp2
        have hF2 := h2.1
        have ig := nI_cl (show g < 2147483648 by omega)
        have ibg := nI_cl (show 4 * b + g < 2147483648 by omega)
        have i71 := ix71 hF2 hg4
        have i73 := ix73 hF2 hg4
        have i74 := ix74 hF2 hg4
        have i75 := ix75 hF2 (show 4 * b + g < 16 by omega)
        have p0 : am_pi nsC σ σ2 := hp2.A_C.i
        by_cases ct : S 6 g 0 ≤ sPy S b g
        · have h3 := mRep_gt (i := 8) (x := S 8 g 0 + 1) h2 (by decide) (by decide) hg4
          have h4 : mRep (sU S 8 g (S 8 g 0 + 1)) (am_wI (am_wI σ2 73 g (nI (S 8 g 0 + 1))) 74 g (nI (S 9 g 0))) := by
            have := mRep_gt (i := 9) (x := sU S 8 g (S 8 g 0 + 1) 9 g 0) h3 (by decide) (by decide) hg4
            rw [sU_id] at this
            exact this
          have h5 := mRep_we (x := S 3 b g + 1) h4 hb hg4
          have t1 : ¬ nI (sPy S b g) < nI (S 6 g 0) := nI_nlt ct (by omega)
          have pp : am_pi nsC σ (am_wI (am_wI (am_wI σ2 73 g (nI (S 8 g 0 + 1))) 74 g (nI (S 9 g 0))) 75 (4 * b + g) (nI (S 3 b g + 1))) := ((p0.w (by rfl)).w (by rfl)).w (by rfl)
          have e5 : sTk S g (sPy S b g) = sU S 8 g (S 8 g 0 + 1) := if_pos ct
          rw [← e5] at h5
          refine ⟨_, ?_, h5, pp⟩
          · simp only [s184_0, s184_1, s184_2, s184_5, s184_8, s184_9, s184_10, s184_13, s184_16, s184_18, s184_19, s184_20, s184_23, s184_24, s184_25, s184_26, s184_27, s184_28, s184_29, s184_31, s184_34, s184_36, s184_37, s184_38, s184_39, s184_40, s184_43, s184_44, s184_45, s184_48, s184_49, s184_50, s184_51, s184_52, s184_53, s184_56, s184_57, s184_58, s184_61, s184_62, s184_65, s184_66, s184_67, s184_68, s184_69, s184_72, s184_73, s184_74, s184_75, s184_76, s184_77, s184_80, s184_81, s184_82, s184_85, s184_86, s184_89, s184_90, s184_93, s184_94, s184_95, s184_96, s184_97, s184_98, s184_99, s184_100, s184_103, s184_104, s184_105, s184_106, s184_107, s184_108, s184_109, s184_110, s184_111, s184_112, s184_113, s184_114, am_pu_s, am_pu_n, va_rf_s, va_rf_n, Option.bind_some, true_or, or_true, eq_self, if_true, if_false, ite_self, ite_true, ite_false, ↓reduceIte, reduceCtorEq, Nat.reduceEqDiff, Nat.reduceAdd, Nat.reduceLT, Nat.reduceLeDiff, Nat.reduceMul, Nat.reduceSub, not_true_eq_false, not_false_eq_true, and_self, and_true, true_and, and_false, false_and, am_I_wI, am_I_wJ, am_J_wI, am_J_wJ, am_R_wI, am_R_wJ, am_kd_wI, am_kd_wJ, am_ln_wI, am_ln_wJ, am_ix_wI, am_ix_wJ, am_F_wI, am_F_wJ, am_I_wC, am_J_wC, am_R_wC, am_kd_wC, am_ln_wC, am_ix_wC, am_F_wC, hF, hF2, kd66, h152, h153, nI_10, rr66_11, rr66_7, rr66_9, rr66_10, nI_2W, ix75 hF (show 4 * b + g < 16 by omega), ibg, ig, mR_W h hb hg4, t, e2, i71, i73, i74, i75, mR_Pa h2 hg4, mR_Ow h2 hg4, mR_T h2 hg4, mR_W h2 hb hg4, t1, nI_add, Nat.add_zero]
        · have h3 : mRep S (am_wI σ2 73 g (nI (S 8 g 0))) := by
            have := mRep_gt (i := 8) (x := S 8 g 0) h2 (by decide) (by decide) hg4
            rw [sU_id] at this
            exact this
          have h4 := mRep_gt (i := 9) (x := S 9 g 0 + (S 6 g 0 - sPy S b g)) h3 (by decide) (by decide) hg4
          have h5 := mRep_we (x := S 3 b g + 1) h4 hb hg4
          have t1 : nI (sPy S b g) < nI (S 6 g 0) := nI_lt (by omega) (by omega)
          have pp : am_pi nsC σ (am_wI (am_wI (am_wI σ2 73 g (nI (S 8 g 0))) 74 g (nI (S 9 g 0 + (S 6 g 0 - sPy S b g)))) 75 (4 * b + g) (nI (S 3 b g + 1))) := ((p0.w (by rfl)).w (by rfl)).w (by rfl)
          have e5 : sTk S g (sPy S b g) = sU S 9 g (S 9 g 0 + (S 6 g 0 - sPy S b g)) := if_neg ct
          rw [← e5] at h5
          refine ⟨_, ?_, h5, pp⟩
          · simp only [s184_0, s184_1, s184_2, s184_5, s184_8, s184_9, s184_10, s184_13, s184_16, s184_18, s184_19, s184_20, s184_23, s184_24, s184_25, s184_26, s184_27, s184_28, s184_29, s184_31, s184_34, s184_36, s184_37, s184_38, s184_39, s184_40, s184_43, s184_44, s184_45, s184_48, s184_49, s184_50, s184_51, s184_52, s184_53, s184_56, s184_57, s184_58, s184_61, s184_62, s184_65, s184_66, s184_67, s184_68, s184_69, s184_72, s184_73, s184_74, s184_75, s184_76, s184_77, s184_80, s184_81, s184_82, s184_85, s184_86, s184_89, s184_90, s184_93, s184_94, s184_95, s184_96, s184_97, s184_98, s184_99, s184_100, s184_103, s184_104, s184_105, s184_106, s184_107, s184_108, s184_109, s184_110, s184_111, s184_112, s184_113, s184_114, am_pu_s, am_pu_n, va_rf_s, va_rf_n, Option.bind_some, true_or, or_true, eq_self, if_true, if_false, ite_self, ite_true, ite_false, ↓reduceIte, reduceCtorEq, Nat.reduceEqDiff, Nat.reduceAdd, Nat.reduceLT, Nat.reduceLeDiff, Nat.reduceMul, Nat.reduceSub, not_true_eq_false, not_false_eq_true, and_self, and_true, true_and, and_false, false_and, am_I_wI, am_I_wJ, am_J_wI, am_J_wJ, am_R_wI, am_R_wJ, am_kd_wI, am_kd_wJ, am_ln_wI, am_ln_wJ, am_ix_wI, am_ix_wJ, am_F_wI, am_F_wJ, am_I_wC, am_J_wC, am_R_wC, am_kd_wC, am_ln_wC, am_ix_wC, am_F_wC, hF, hF2, kd66, h152, h153, nI_10, rr66_11, rr66_7, rr66_9, rr66_10, nI_2W, ix75 hF (show 4 * b + g < 16 by omega), ibg, ig, mR_W h hb hg4, t, e2, i71, i73, i74, i75, mR_Pa h2 hg4, mR_Ow h2 hg4, mR_T h2 hg4, mR_W h2 hb hg4, t1, pk_sub (show sPy S b g ≤ S 6 g 0 by omega), nI_add, Nat.add_zero]
    · rw [e, eg]
      refine ⟨σ, ?_, h, am_pi.rf hF⟩
      simp only [s184_0, s184_1, s184_2, s184_5, s184_8, s184_9, s184_10, s184_13, s184_16, s184_18, s184_19, s184_20, s184_23, s184_24, s184_25, s184_26, s184_27, s184_28, s184_29, s184_31, s184_34, s184_36, s184_37, s184_38, s184_39, s184_40, s184_43, s184_44, s184_45, s184_48, s184_49, s184_50, s184_51, s184_52, s184_53, s184_56, s184_57, s184_58, s184_61, s184_62, s184_65, s184_66, s184_67, s184_68, s184_69, s184_72, s184_73, s184_74, s184_75, s184_76, s184_77, s184_80, s184_81, s184_82, s184_85, s184_86, s184_89, s184_90, s184_93, s184_94, s184_95, s184_96, s184_97, s184_98, s184_99, s184_100, s184_103, s184_104, s184_105, s184_106, s184_107, s184_108, s184_109, s184_110, s184_111, s184_112, s184_113, s184_114, am_pu_s, am_pu_n, va_rf_s, va_rf_n, Option.bind_some, true_or, or_true, eq_self, if_true, if_false, ite_self, ite_true, ite_false, ↓reduceIte, reduceCtorEq, Nat.reduceEqDiff, Nat.reduceAdd, Nat.reduceLT, Nat.reduceLeDiff, Nat.reduceMul, Nat.reduceSub, not_true_eq_false, not_false_eq_true, and_self, and_true, true_and, and_false, false_and, hF, kd66, h152, nI_10, m153n h hO eg]
  · rw [e]
    refine ⟨σ, ?_, h, am_pi.rf hF⟩
    simp only [s184_0, s184_1, s184_2, s184_5, s184_8, s184_9, s184_10, s184_13, s184_16, s184_18, s184_19, s184_20, s184_23, s184_24, s184_25, s184_26, s184_27, s184_28, s184_29, s184_31, s184_34, s184_36, s184_37, s184_38, s184_39, s184_40, s184_43, s184_44, s184_45, s184_48, s184_49, s184_50, s184_51, s184_52, s184_53, s184_56, s184_57, s184_58, s184_61, s184_62, s184_65, s184_66, s184_67, s184_68, s184_69, s184_72, s184_73, s184_74, s184_75, s184_76, s184_77, s184_80, s184_81, s184_82, s184_85, s184_86, s184_89, s184_90, s184_93, s184_94, s184_95, s184_96, s184_97, s184_98, s184_99, s184_100, s184_103, s184_104, s184_105, s184_106, s184_107, s184_108, s184_109, s184_110, s184_111, s184_112, s184_113, s184_114, am_pu_s, am_pu_n, va_rf_s, va_rf_n, Option.bind_some, true_or, or_true, eq_self, if_true, if_false, ite_self, ite_true, ite_false, ↓reduceIte, reduceCtorEq, Nat.reduceEqDiff, Nat.reduceAdd, Nat.reduceLT, Nat.reduceLeDiff, Nat.reduceMul, Nat.reduceSub, not_true_eq_false, not_false_eq_true, and_self, and_true, true_and, and_false, false_and, hF, kd66, m152n h e]
end MU
