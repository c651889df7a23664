/-! blank, forget, wind, toll, go -/
theorem sU_o (S : am_St) {i a v j : Nat} (h : ¬ j = i) : sU S i a v j = S j := by
  funext y z
  exact if_neg fun q => h q.1
theorem sU_at (S : am_St) (i a v b : Nat) : sU S i a v i b 0 = if b = a then v else S i b 0 := by
  show (if i = i ∧ b = a ∧ 0 = 0 then v else S i b 0) = _
  by_cases h : b = a
  · rw [if_pos ⟨rfl, h, rfl⟩, if_pos h]
  · rw [if_neg (fun q => h q.2.1), if_neg h]
theorem sOK_up {N : Nat} {S : am_St} (h : sOK N S) : sOK (N + 1) S := ⟨h.1, h.2.1, by have := h.2.2.1; omega, h.2.2.2⟩
section MU
variable {X : am_X} {d N : Nat} {σ σ' : am_M} {S S' : am_St} {v w : Int32}
/-- what of the class is kept, when nothing of its kept part, no page, no counts change -/
theorem cRep_n (h : cRep S σ) (e : ∀ i, 14 ≤ i → S' i = S i) (hF : am_F σ') (W : cWld σ' 8 S' 0) (m : ∀ a k, (a < 8 ∨ 31 ≤ a ∨ (27 ≤ a ∧ a ≤ 30 ∧ k = 0)) → am_I σ' a k = am_I σ a k) : cRep S' σ' := by
  have hk := cRep_K h (fun i q => e i (by omega)) (fun a k q1 q2 => m a k (by omega))
  obtain ⟨_, _, _, h4, h5, h6, h7, h8⟩ := h
  refine ⟨hF, W, hk, ⟨?_, fun j hj => ?_⟩, fun g hg => ?_, ?_, ?_, ?_⟩
  · rw [m 1 1 (by omega), e 14 (by omega)]; exact h4.1
  · rw [e 14 (by omega)] at hj
    rw [m 2 j (by omega), e 15 (by omega)]; exact h4.2 j hj
  · rw [m (27 + g) 0 (by omega)]; exact h5 g hg
  · rw [m 0 8 (by omega), e 18 (by omega)]; exact h6
  · rw [m 0 9 (by omega), e 16 (by omega)]; exact h7
  · rw [m 0 10 (by omega), e 17 (by omega)]; exact h8
theorem mRep_n (h : mRep S σ) (e : ∀ i, 14 ≤ i → S' i = S i) (e4 : S' 4 = S 4) (e5 : S' 5 = S 5) (hF : am_F σ') (W : mWld σ' 67 68 69 71 72 73 74 75 76 77 78 S' 0) (m12 : am_I σ' 66 12 = nI (S' 10 0 0)) (m : ∀ a k, (a = 70 ∨ 79 ≤ a ∨ (a = 66 ∧ ¬ k = 12)) → am_I σ' a k = am_I σ a k) : mRep S' σ' := by
  have hk := mRep_K (S' := S') (σ' := σ') h (fun i q => e i (by omega)) (e 16 (by omega)) (fun a k q => m a k (by omega)) (m _ _ (by omega)) (m _ _ (by omega)) (m _ _ (by omega))
  obtain ⟨_, _, h3, h4, h5, h6, h7, h8, _, _⟩ := h
  refine ⟨hF, W, fun g hg => ?_, ?_, m12, ⟨?_, fun j hj => ?_⟩, ?_, ?_, hk.1, hk.2⟩
  · rw [m 70 g (by omega), e5]; exact h3 g hg
  · rw [m 66 5 (by omega), e4]; exact h4
  · rw [m 66 16 (by omega), e 14 (by omega)]; exact h6.1
  · rw [e 14 (by omega)] at hj
    rw [m 79 j (by omega), e 15 (by omega)]; exact h6.2 j hj
  · rw [m 66 4 (by omega), e 16 (by omega)]; exact h7
  · rw [m 66 3 (by omega), e 17 (by omega)]; exact h8
theorem sOK_n (h : sOK N S) (e : ∀ i, 14 ≤ i → S' i = S i) (e4 : S' 4 = S 4) (e5 : S' 5 = S 5) (W : wOK S' 0) : sOK (N + 1) S' := by
  have hk := sOK_K (S' := S') h (fun i q => e i (by omega)) e4 e5
  obtain ⟨_, h2, h3, _, _⟩ := h
  refine ⟨W, ?_, ?_, hk.1, hk.2⟩
  · rw [e 14 (by omega), e 15 (by omega)]; exact h2
  · rw [e 16 (by omega)]; omega
/-! blank -/
def oBla (S : am_St) : Int32 × am_St := (nI (S 14 0 0), sU S 14 0 0)
theorem oBla_ok (h : sOK N S) : sOK (N + 1) (oBla S).2 := by
  have up := sOK_up h
  exact ⟨wOK_S (fun i _ q => sU_o S (by omega)) up.1, ⟨by show 0 ≤ 40; omega, fun j hj => absurd (show j < 0 from hj) (by omega)⟩, up.2.2.1, sOK_K (S' := sU S 14 0 0) up (fun i q => sU_o S (by omega)) (sU_o S (by omega)) (sU_o S (by omega))⟩
theorem cRep_p0 (h : cRep S σ) : cRep (sU S 14 0 0) (am_wI σ 1 1 (nI 0)) := by
  refine ⟨h.1, cWld_S (fun i _ q => sU_o S (by omega)) (h.2.1.pr fun a k q1 q2 => ?_), cRep_K h (fun i q => sU_o S (by omega)) (fun a k q1 q2 => ?_), ⟨?_, fun j hj => absurd (show j < 0 from hj) (by omega)⟩, fun g hg => ?_, ?_, ?_, ?_⟩
  · rw [am_I_wI, if_neg (by omega)]
  · rw [am_I_wI, if_neg (by omega)]
  · rw [am_I_wI, if_pos ⟨rfl, rfl⟩]; rfl
  · rw [am_I_wI, if_neg (by omega)]; exact cR_no h hg
  · rw [am_I_wI, if_neg (by omega)]; exact h.2.2.2.2.2.1
  · rw [am_I_wI, if_neg (by omega)]; exact h.2.2.2.2.2.2.1
  · rw [am_I_wI, if_neg (by omega)]; exact h.2.2.2.2.2.2.2
theorem mRep_p0 (h : mRep S σ) : mRep (sU S 14 0 0) (am_wI σ 66 16 (nI 0)) := by
  have hk := mRep_K (S' := sU S 14 0 0) (σ' := am_wI σ 66 16 (nI 0)) h (fun i q => sU_o S (by omega)) (sU_o S (by omega)) (fun a k q => by rw [am_I_wI, if_neg (by omega)]) (by rw [am_I_wI, if_neg (by omega)]) (by rw [am_I_wI, if_neg (by omega)]) (by rw [am_I_wI, if_neg (by omega)])
  obtain ⟨hF, h2, h3, h4, h5, h6, h7, h8, _, _⟩ := h
  refine ⟨hF, mWld_S (fun i _ q => sU_o S (by omega)) (h2.pr fun a k ha => ?_), fun g hg => ?_, ?_, ?_, ⟨?_, fun j hj => absurd (show j < 0 from hj) (by omega)⟩, ?_, ?_, hk.1, hk.2⟩
  · simp at ha
    rw [am_I_wI, if_neg (by omega)]
  · rw [am_I_wI, if_neg (by omega)]; exact h3 g hg
  · rw [am_I_wI, if_neg (by omega)]; exact h4
  · rw [am_I_wI, if_neg (by omega)]; exact h5
  · rw [am_I_wI, if_pos ⟨rfl, rfl⟩]; rfl
  · rw [am_I_wI, if_neg (by omega)]; exact h7
  · rw [am_I_wI, if_neg (by omega)]; exact h8
theorem c87 (h : cRep S σ) : ∃ σ', am_v X (d + 2) 87 [.ref (0 : Nat)] σ = some (some (.int (oBla S).1), σ') ∧ cRep (oBla S).2 σ' ∧ am_pi nsM σ σ' := by
  have hF := h.1
  refine ⟨am_wI σ 1 1 (nI 0), ?_, cRep_p0 h, (am_pi.rf hF).w (by rfl)⟩
  rw [s87]
  simp only [s87_0, s87_1, s87_4, s87_7, s87_8, s87_9, s87_12, s87_15, s87_16, am_pu_s, am_pu_n, va_rf_s, va_rf_n, Option.bind_some, true_or, or_true, eq_self, if_true, if_false, ite_self, ite_true, ite_false, ↓reduceIte, reduceCtorEq, Nat.reduceEqDiff, Nat.reduceAdd, Nat.reduceLT, Nat.reduceLeDiff, Nat.reduceMul, Nat.reduceSub, not_true_eq_false, not_false_eq_true, and_self, and_true, true_and, and_false, false_and, hF, kd0, kd1, rr0_0, cR_L h, m23 hF]
  rfl
theorem c131 (h : mRep S σ) : ∃ σ', am_v X (d + 1) 131 [.ref (66 : Nat)] σ = some (some (.int (oBla S).1), σ') ∧ mRep (oBla S).2 σ' ∧ am_pi nsC σ σ' := by
  have hF := h.1
  refine ⟨am_wI σ 66 16 (nI 0), ?_, mRep_p0 h, (am_pi.rf hF).w (by rfl)⟩
  rw [s131]
  simp only [s131_0, s131_1, s131_4, s131_5, s131_6, s131_7, s131_10, s131_11, am_pu_s, am_pu_n, va_rf_s, va_rf_n, Option.bind_some, true_or, or_true, eq_self, if_true, if_false, ite_self, ite_true, ite_false, ↓reduceIte, reduceCtorEq, Nat.reduceEqDiff, Nat.reduceAdd, Nat.reduceLT, Nat.reduceLeDiff, Nat.reduceMul, Nat.reduceSub, not_true_eq_false, not_false_eq_true, and_self, and_true, true_and, and_false, false_and, hF, kd66, mR_L h]
  rfl
/-! forget -/
def oFor (S : am_St) : Int32 × am_St := (nI (S 10 0 0), sU S 10 0 0)
theorem oFor_ok (h : sOK N S) : sOK (N + 1) (oFor S).2 := by
  refine sOK_n (S' := sU S 10 0 0) h (fun i q => sU_o S (by omega)) (sU_o S (by omega)) (sU_o S (by omega)) ?_
  obtain ⟨w1, w2, w3, w4, w5⟩ := h.1
  exact ⟨w1, w2, w3, by show 0 ≤ 8; omega, w5⟩
theorem cRep_s0 (h : cRep S σ) : cRep (sU S 10 0 0) (am_wI σ 11 3 (nI 0)) := by
  refine cRep_n h (fun i q => sU_o S (by omega)) h.1 ?_ (fun a k q => by rw [am_I_wI, if_neg (by omega)])
  obtain ⟨w1, w2, w3, w4⟩ := h.2.1
  refine ⟨?_, fun b hb => ⟨(w2 b hb).1.pr fun a k q1 q2 => ?_, fun q => ?_⟩, fun g hg => (w3 g hg).pr fun j => ?_, ?_, fun j hj => ?_⟩
  · rw [am_I_wI, if_neg (by omega)]; exact w1
  · rw [am_I_wI, if_neg (by omega)]
  · rw [am_I_wI, if_neg (by omega)]; exact (w2 b hb).2 q
  · rw [am_I_wI, if_neg (by omega)]
  · rw [am_I_wI, if_pos ⟨rfl, rfl⟩]; rfl
  · rw [am_I_wI, if_neg (by omega), am_I_wI, if_neg (by omega), am_I_wI, if_neg (by omega)]; exact w4.2 j hj
theorem mRep_s0 (h : mRep S σ) : mRep (sU S 10 0 0) (am_wI σ 66 12 (nI 0)) := by
  refine mRep_n h (fun i q => sU_o S (by omega)) (sU_o S (by omega)) (sU_o S (by omega)) h.1 ?_ (by rw [am_I_wI, if_pos ⟨rfl, rfl⟩]; rfl) (fun a k q => by rw [am_I_wI, if_neg (by omega)])
  have h2 := h.2.1.pr (σ' := am_wI σ 66 12 (nI 0)) fun a k ha => by
    simp at ha
    rw [am_I_wI, if_neg (by omega)]
  exact h2
theorem c109 (h : cRep S σ) : ∃ σ', am_v X (d + 2) 109 [.ref (0 : Nat)] σ = some (some (.int (oFor S).1), σ') ∧ cRep (oFor S).2 σ' ∧ am_pi nsM σ σ' := by
  have hF := h.1
  have e39 : am_v X (d + 1) 39 [.ref (11 : Nat)] σ = some (none, am_wI σ 11 3 (nI 0)) := by
    rw [s39]
    simp only [s39_0, s39_1, s39_2, s39_5, am_pu_s, am_pu_n, va_rf_s, va_rf_n, Option.bind_some, true_or, or_true, eq_self, if_true, if_false, ite_self, ite_true, ite_false, ↓reduceIte, reduceCtorEq, Nat.reduceEqDiff, Nat.reduceAdd, Nat.reduceLT, Nat.reduceLeDiff, Nat.reduceMul, Nat.reduceSub, not_true_eq_false, not_false_eq_true, and_self, and_true, true_and, and_false, false_and, hF, kd11]
  refine ⟨am_wI σ 11 3 (nI 0), ?_, cRep_s0 h, (am_pi.rf hF).w (by rfl)⟩
  rw [s109]
  simp only [s109_0, s109_1, s109_4, s109_7, s109_10, s109_11, s109_12, s109_15, s109_18, s109_21, s109_22, am_pu_s, am_pu_n, va_rf_s, va_rf_n, Option.bind_some, true_or, or_true, eq_self, if_true, if_false, ite_self, ite_true, ite_false, ↓reduceIte, reduceCtorEq, Nat.reduceEqDiff, Nat.reduceAdd, Nat.reduceLT, Nat.reduceLeDiff, Nat.reduceMul, Nat.reduceSub, not_true_eq_false, not_false_eq_true, and_self, and_true, true_and, and_false, false_and, hF, kd0, kd8, kd11, rr0_2, rr8_2, cR_sn h, e39]
  rfl
theorem c195 (h : mRep S σ) : ∃ σ', am_v X (d + 1) 195 [.ref (66 : Nat)] σ = some (some (.int (oFor S).1), σ') ∧ mRep (oFor S).2 σ' ∧ am_pi nsC σ σ' := by
  have hF := h.1
  refine ⟨am_wI σ 66 12 (nI 0), ?_, mRep_s0 h, (am_pi.rf hF).w (by rfl)⟩
  rw [s195]
  simp only [s195_0, s195_1, s195_4, s195_5, s195_6, s195_7, s195_10, s195_11, am_pu_s, am_pu_n, va_rf_s, va_rf_n, Option.bind_some, true_or, or_true, eq_self, if_true, if_false, ite_self, ite_true, ite_false, ↓reduceIte, reduceCtorEq, Nat.reduceEqDiff, Nat.reduceAdd, Nat.reduceLT, Nat.reduceLeDiff, Nat.reduceMul, Nat.reduceSub, not_true_eq_false, not_false_eq_true, and_self, and_true, true_and, and_false, false_and, hF, kd66, mR_sn h]
  rfl
/-! a number of a GATE -/
theorem cG_f (h : cRep S σ) {g f : Nat} (hg : g < 4) (h1 : 1 ≤ f) (h5 : f ≤ 5) : am_I σ (27 + g) f = nI (S (f + 4) g 0) := by
  obtain ⟨a1, a2, a3, a4, a5⟩ := cR_g h hg
  have : f = 1 ∨ f = 2 ∨ f = 3 ∨ f = 4 ∨ f = 5 := by omega
  rcases this with rfl | rfl | rfl | rfl | rfl
  · exact a1
  · exact a2
  · exact a3
  · exact a4
  · exact a5
theorem sU_if (S : am_St) (i a v x y : Nat) : sU S i a v x y 0 = if x = i ∧ y = a then v else S x y 0 := by
  show (if x = i ∧ y = a ∧ 0 = 0 then v else S x y 0) = _
  by_cases h : x = i ∧ y = a
  · rw [if_pos ⟨h.1, h.2, rfl⟩, if_pos h]
  · rw [if_neg (fun q => h ⟨q.1, q.2.1⟩), if_neg h]
theorem cRep_gt (h : cRep S σ) {i g x : Nat} (h6 : 6 ≤ i) (h9 : i ≤ 9) (hg : g < 4) : cRep (sU S i g x) (am_wI σ (27 + g) (i - 4) (nI x)) := by
  refine cRep_n h (fun j q => sU_o S (by omega)) h.1 ?_ (fun a k q => by rw [am_I_wI, if_neg (by omega)])
  obtain ⟨w1, w2, w3, w4⟩ := h.2.1
  have eS : ∀ j, j < 6 → sU S i g x j = S j := fun j q => sU_o S (by omega)
  have eS' : ∀ j, 10 ≤ j → sU S i g x j = S j := fun j q => sU_o S (by omega)
  have gf : ∀ g', g' < 4 → ∀ f, 1 ≤ f → f ≤ 5 → am_I (am_wI σ (27 + g) (i - 4) (nI x)) (27 + g') f = nI (sU S i g x (f + 4) g' 0) := fun g' hg' f q1 q2 => by
    rw [sU_if, am_I_wI]
    by_cases c : f + 4 = i ∧ g' = g
    · rw [if_pos c, if_pos (by omega)]
    · rw [if_neg c, if_neg (by omega)]
      exact cG_f h hg' q1 q2
  refine ⟨?_, fun b hb => ⟨?_, fun q => ?_⟩, fun g' hg' => ⟨gf g' hg' 1 (by decide) (by decide), gf g' hg' 2 (by decide) (by decide), gf g' hg' 3 (by decide) (by decide), gf g' hg' 4 (by decide) (by decide), gf g' hg' 5 (by decide) (by decide)⟩, ?_, fun j hj => ?_⟩
  · rw [am_I_wI, if_neg (by omega), eS _ (by omega)]; exact w1
  · rw [eS _ (by omega), eS _ (by omega), eS _ (by omega)]
    exact (w2 b hb).1.pr fun a k q1 q2 => by rw [am_I_wI, if_neg (by omega)]
  · rw [eS _ (by omega)] at q
    rw [am_I_wI, if_neg (by omega), eS _ (by omega)]; exact (w2 b hb).2 q
  · rw [am_I_wI, if_neg (by omega), eS' _ (by omega)]; exact w4.1
  · rw [am_I_wI, if_neg (by omega), am_I_wI, if_neg (by omega), am_I_wI, if_neg (by omega), eS' _ (by omega), eS' _ (by omega), eS' _ (by omega)]; exact w4.2 j hj
theorem mG_f (h : mRep S σ) {g i : Nat} (hg : g < 4) (h6 : 6 ≤ i) (h9 : i ≤ 9) : am_I σ (i + 65) g = nI (S i g 0) := by
  obtain ⟨a1, a2, a3, a4⟩ := h.2.1.2.1 g hg
  have : i = 6 ∨ i = 7 ∨ i = 8 ∨ i = 9 := by omega
  rcases this with rfl | rfl | rfl | rfl
  · exact a1
  · exact a2
  · exact a3
  · exact a4
theorem mRep_gt (h : mRep S σ) {i g x : Nat} (h6 : 6 ≤ i) (h9 : i ≤ 9) (hg : g < 4) : mRep (sU S i g x) (am_wI σ (i + 65) g (nI x)) := by
  have gf : ∀ g', g' < 4 → ∀ j, 6 ≤ j → j ≤ 9 → am_I (am_wI σ (i + 65) g (nI x)) (j + 65) g' = nI (sU S i g x j g' 0) := fun g' hg' j q1 q2 => by
    rw [sU_if, am_I_wI]
    by_cases c : j = i ∧ g' = g
    · rw [if_pos c, if_pos (by omega)]
    · rw [if_neg c, if_neg (by omega)]
      exact mG_f h hg' q1 q2
  have eS : ∀ j, j < 6 → sU S i g x j = S j := fun j q => sU_o S (by omega)
  have eS' : ∀ j, 10 ≤ j → sU S i g x j = S j := fun j q => sU_o S (by omega)
  refine mRep_n h (fun j q => sU_o S (by omega)) (sU_o S (by omega)) (sU_o S (by omega)) h.1 ?_ (by rw [am_I_wI, if_neg (by omega), eS' _ (by omega)]; exact mR_sn h) (fun a k q => by rw [am_I_wI, if_neg (by omega)])
  obtain ⟨w1, w2, w3⟩ := h.2.1
  refine ⟨fun b hb => ?_, fun g' hg' => ⟨gf g' hg' 6 (by decide) (by decide), gf g' hg' 7 (by decide) (by decide), gf g' hg' 8 (by decide) (by decide), gf g' hg' 9 (by decide) (by decide)⟩, fun j hj => ?_⟩
  · obtain ⟨a1, a2, a3, a4⟩ := w1 b hb
    rw [eS _ (by omega), eS _ (by omega), eS _ (by omega), eS _ (by omega)]
    exact ⟨fun j hj => by rw [am_I_wI, if_neg (by omega)]; exact a1 j hj, by rw [am_I_wI, if_neg (by omega)]; exact a2, fun q => by rw [am_I_wI, if_neg (by omega)]; exact a3 q, fun g' hg' => by rw [am_I_wI, if_neg (by omega)]; exact a4 g' hg'⟩
  · rw [am_I_wI, if_neg (by omega), am_I_wI, if_neg (by omega), am_I_wI, if_neg (by omega), eS' _ (by omega), eS' _ (by omega), eS' _ (by omega)]
    exact w3 j hj
theorem wOK_gt (h : sOK N S) {i g x : Nat} (h6 : 6 ≤ i) (h9 : i ≤ 9) (hx6 : i = 6 → x ≤ 99) (hx7 : i = 7 → x ≤ 6) : sOK (N + 1) (sU S i g x) := by
  have eS : ∀ j, j < 6 → sU S i g x j = S j := fun j q => sU_o S (by omega)
  have eS' : ∀ j, 10 ≤ j → sU S i g x j = S j := fun j q => sU_o S (by omega)
  refine sOK_n h (fun j q => eS' j (by omega)) (eS _ (by omega)) (eS _ (by omega)) ?_
  obtain ⟨w1, w2, w3, w4, w5⟩ := h.1
  refine ⟨fun b hb => ?_, ?_, fun g' hg' => ⟨?_, ?_, ?_⟩, ?_, fun j hj => ?_⟩
  · rw [eS _ (by omega), eS _ (by omega), eS _ (by omega), eS _ (by omega)]; exact w1 b hb
  · rw [eS _ (by omega)]; exact w2
  · rw [eS _ (by omega)]; exact (w3 g' hg').1
  · rw [sU_if]
    split
    · exact hx6 (by omega)
    · exact (w3 g' hg').2.1
  · rw [sU_if]
    split
    · exact hx7 (by omega)
    · exact (w3 g' hg').2.2
  · rw [eS' _ (by omega)]; exact w4
  · rw [eS' _ (by omega), eS' _ (by omega), eS' _ (by omega)]; exact w5 j hj
theorem ns_g {g k : Nat} (hg : g < 4) : nsM (27 + g) k = false := by
  have : g = 0 ∨ g = 1 ∨ g = 2 ∨ g = 3 := by omega
  rcases this with rfl | rfl | rfl | rfl <;> rfl
/-! wind, toll -/
def oWin (S : am_St) (v w : Int32) : Int32 × am_St := match gI S v with
  | none => (-101, S)
  | some g => if w < nI 0 ∨ nI 6 < w then (-102, S) else (nI (S 7 g 0), sU S 7 g w.toNatClampNeg)
def oTol (S : am_St) (v w : Int32) : Int32 × am_St := match gI S v with
  | none => (-101, S)
  | some g => if w < nI 0 ∨ nI 99 < w then (-102, S) else (nI (S 6 g 0), sU S 6 g w.toNatClampNeg)
theorem i32_in {w : Int32} {n : Nat} (hn : n < 2 ^ 31) (h : ¬ (w < nI 0 ∨ nI n < w)) : ∃ s, s ≤ n ∧ w = nI s := by
  obtain ⟨s, hs, rfl⟩ := i32_nn (w := w) (fun q => h (Or.inl q))
  refine ⟨s, ?_, rfl⟩
  by_cases q : s ≤ n
  · exact q
  · exact absurd (Or.inr (nI_lt (show n < s by omega) hs)) h
theorem oWin_ok (h : sOK N S) : sOK (N + 1) (oWin S v w).2 := by
  unfold oWin
  split
  · exact sOK_up h
  · split
    · exact sOK_up h
    · rename_i c
      obtain ⟨s, hs, rfl⟩ := i32_in (by decide) c
      rw [nI_cl (by omega)]
      exact wOK_gt h (by decide) (by decide) (fun q => absurd q (by decide)) (fun _ => hs)
theorem oTol_ok (h : sOK N S) : sOK (N + 1) (oTol S v w).2 := by
  unfold oTol
  split
  · exact sOK_up h
  · split
    · exact sOK_up h
    · rename_i c
      obtain ⟨s, hs, rfl⟩ := i32_in (by decide) c
      rw [nI_cl (by omega)]
      exact wOK_gt h (by decide) (by decide) (fun _ => hs) (fun q => absurd q (by decide))
theorem c102 (h : cRep S σ) (hO : sOK N S) : ∃ σ', am_v X (d + 2) 102 [.ref (0 : Nat), .int v, .int w] σ = some (some (.int (oWin S v w).1), σ') ∧ cRep (oWin S v w).2 σ' ∧ am_pi nsM σ σ' := by
  have hF := h.1
  unfold oWin
  rw [s102]
  rcases gI_c (sO_G hO) v with ⟨g, hg, hg4, rfl, e⟩ | e
  · rw [e]
    dsimp only
    by_cases c1 : w < nI 0
    · rw [if_pos (Or.inl c1)]
      refine ⟨σ, ?_, h, am_pi.rf hF⟩
      simp only [s102_0, s102_1, s102_4, s102_5, s102_8, s102_8n, s102_9, s102_9n, s102_10n, s102_10, s102_13, s102_15, s102_16, s102_17, s102_20, s102_21, s102_23, s102_26, s102_28, s102_29, s102_29n, s102_30, s102_33, s102_35, s102_35n, s102_36, s102_37, s102_40, s102_42, am_pu_s, am_pu_n, va_rf_s, va_rf_n, Option.bind_some, true_or, or_true, eq_self, if_true, if_false, ite_self, ite_true, ite_false, ↓reduceIte, reduceCtorEq, Nat.reduceEqDiff, Nat.reduceAdd, Nat.reduceLT, Nat.reduceLeDiff, Nat.reduceMul, Nat.reduceSub, not_true_eq_false, not_false_eq_true, and_self, and_true, true_and, and_false, false_and, hF, kd0, rr0_2, kd8, m77s h hO hg hg4, c1]
    by_cases c2 : nI 6 < w
    · rw [if_pos (Or.inr c2)]
      have c2' : ¬ w < nI 7 := fun q => (nI_lt_s (by decide) w).mp q c2
      refine ⟨σ, ?_, h, am_pi.rf hF⟩
      simp only [s102_0, s102_1, s102_4, s102_5, s102_8, s102_8n, s102_9, s102_9n, s102_10n, s102_10, s102_13, s102_15, s102_16, s102_17, s102_20, s102_21, s102_23, s102_26, s102_28, s102_29, s102_29n, s102_30, s102_33, s102_35, s102_35n, s102_36, s102_37, s102_40, s102_42, am_pu_s, am_pu_n, va_rf_s, va_rf_n, Option.bind_some, true_or, or_true, eq_self, if_true, if_false, ite_self, ite_true, ite_false, ↓reduceIte, reduceCtorEq, Nat.reduceEqDiff, Nat.reduceAdd, Nat.reduceLT, Nat.reduceLeDiff, Nat.reduceMul, Nat.reduceSub, not_true_eq_false, not_false_eq_true, and_self, and_true, true_and, and_false, false_and, hF, kd0, rr0_2, kd8, m77s h hO hg hg4, c1, c2']
    rw [if_neg (by rintro (q | q); exact c1 q; exact c2 q)]
    have c2' : w < nI 7 := (nI_lt_s (by decide) w).mpr c2
    obtain ⟨s, hs, rfl⟩ := i32_in (w := w) (n := 6) (by decide) (by rintro (q | q); exact c1 q; exact c2 q)
    rw [nI_cl (by omega)]
    refine ⟨am_wI σ (27 + g) 3 (nI s), ?_, cRep_gt (i := 7) h (by decide) (by decide) hg4, (am_pi.rf hF).w (ns_g hg4)⟩
    simp only [s102_0, s102_1, s102_4, s102_5, s102_8, s102_8n, s102_9, s102_9n, s102_10n, s102_10, s102_13, s102_15, s102_16, s102_17, s102_20, s102_21, s102_23, s102_26, s102_28, s102_29, s102_29n, s102_30, s102_33, s102_35, s102_35n, s102_36, s102_37, s102_40, s102_42, am_pu_s, am_pu_n, va_rf_s, va_rf_n, Option.bind_some, true_or, or_true, eq_self, if_true, if_false, ite_self, ite_true, ite_false, ↓reduceIte, reduceCtorEq, Nat.reduceEqDiff, Nat.reduceAdd, Nat.reduceLT, Nat.reduceLeDiff, Nat.reduceMul, Nat.reduceSub, not_true_eq_false, not_false_eq_true, and_self, and_true, true_and, and_false, false_and, am_I_wI, am_I_wJ, am_J_wI, am_J_wJ, am_R_wI, am_R_wJ, am_kd_wI, am_kd_wJ, am_ln_wI, am_ln_wJ, am_ix_wI, am_ix_wJ, am_F_wI, am_F_wJ, am_I_wC, am_J_wC, am_R_wC, am_kd_wC, am_ln_wC, am_ix_wC, am_F_wC, hF, kd0, rr0_2, kd8, m77s h hO hg hg4, c1, c2', kdG hF (isGa8 hg4), cR_Wd h hg4]
  · rw [e]
    refine ⟨σ, ?_, h, am_pi.rf hF⟩
    simp only [s102_0, s102_1, s102_4, s102_5, s102_8, s102_8n, s102_9, s102_9n, s102_10n, s102_10, s102_13, s102_15, s102_16, s102_17, s102_20, s102_21, s102_23, s102_26, s102_28, s102_29, s102_29n, s102_30, s102_33, s102_35, s102_35n, s102_36, s102_37, s102_40, s102_42, am_pu_s, am_pu_n, va_rf_s, va_rf_n, Option.bind_some, true_or, or_true, eq_self, if_true, if_false, ite_self, ite_true, ite_false, ↓reduceIte, reduceCtorEq, Nat.reduceEqDiff, Nat.reduceAdd, Nat.reduceLT, Nat.reduceLeDiff, Nat.reduceMul, Nat.reduceSub, not_true_eq_false, not_false_eq_true, and_self, and_true, true_and, and_false, false_and, hF, kd0, rr0_2, kd8, m77n h hO e]
theorem c103 (h : cRep S σ) (hO : sOK N S) : ∃ σ', am_v X (d + 2) 103 [.ref (0 : Nat), .int v, .int w] σ = some (some (.int (oTol S v w).1), σ') ∧ cRep (oTol S v w).2 σ' ∧ am_pi nsM σ σ' := by
  have hF := h.1
  unfold oTol
  rw [s103]
  rcases gI_c (sO_G hO) v with ⟨g, hg, hg4, rfl, e⟩ | e
  · rw [e]
    dsimp only
    by_cases c1 : w < nI 0
    · rw [if_pos (Or.inl c1)]
      refine ⟨σ, ?_, h, am_pi.rf hF⟩
      simp only [s103_0, s103_1, s103_4, s103_5, s103_8, s103_8n, s103_9, s103_9n, s103_10n, s103_10, s103_13, s103_15, s103_16, s103_17, s103_20, s103_21, s103_23, s103_26, s103_28, s103_29, s103_29n, s103_30, s103_33, s103_35, s103_35n, s103_36, s103_37, s103_40, s103_42, am_pu_s, am_pu_n, va_rf_s, va_rf_n, Option.bind_some, true_or, or_true, eq_self, if_true, if_false, ite_self, ite_true, ite_false, ↓reduceIte, reduceCtorEq, Nat.reduceEqDiff, Nat.reduceAdd, Nat.reduceLT, Nat.reduceLeDiff, Nat.reduceMul, Nat.reduceSub, not_true_eq_false, not_false_eq_true, and_self, and_true, true_and, and_false, false_and, hF, kd0, rr0_2, kd8, m77s h hO hg hg4, c1]
    by_cases c2 : nI 99 < w
    · rw [if_pos (Or.inr c2)]
      have c2' : ¬ w ≤ nI 99 := Int32.not_le.mpr c2
      refine ⟨σ, ?_, h, am_pi.rf hF⟩
      simp only [s103_0, s103_1, s103_4, s103_5, s103_8, s103_8n, s103_9, s103_9n, s103_10n, s103_10, s103_13, s103_15, s103_16, s103_17, s103_20, s103_21, s103_23, s103_26, s103_28, s103_29, s103_29n, s103_30, s103_33, s103_35, s103_35n, s103_36, s103_37, s103_40, s103_42, am_pu_s, am_pu_n, va_rf_s, va_rf_n, Option.bind_some, true_or, or_true, eq_self, if_true, if_false, ite_self, ite_true, ite_false, ↓reduceIte, reduceCtorEq, Nat.reduceEqDiff, Nat.reduceAdd, Nat.reduceLT, Nat.reduceLeDiff, Nat.reduceMul, Nat.reduceSub, not_true_eq_false, not_false_eq_true, and_self, and_true, true_and, and_false, false_and, hF, kd0, rr0_2, kd8, m77s h hO hg hg4, c1, c2']
    rw [if_neg (by rintro (q | q); exact c1 q; exact c2 q)]
    have c2' : w ≤ nI 99 := Int32.not_lt.mp c2
    obtain ⟨s, hs, rfl⟩ := i32_in (w := w) (n := 99) (by decide) (by rintro (q | q); exact c1 q; exact c2 q)
    rw [nI_cl (by omega)]
    refine ⟨am_wI σ (27 + g) 2 (nI s), ?_, cRep_gt (i := 6) h (by decide) (by decide) hg4, (am_pi.rf hF).w (ns_g hg4)⟩
    simp only [s103_0, s103_1, s103_4, s103_5, s103_8, s103_8n, s103_9, s103_9n, s103_10n, s103_10, s103_13, s103_15, s103_16, s103_17, s103_20, s103_21, s103_23, s103_26, s103_28, s103_29, s103_29n, s103_30, s103_33, s103_35, s103_35n, s103_36, s103_37, s103_40, s103_42, am_pu_s, am_pu_n, va_rf_s, va_rf_n, Option.bind_some, true_or, or_true, eq_self, if_true, if_false, ite_self, ite_true, ite_false, ↓reduceIte, reduceCtorEq, Nat.reduceEqDiff, Nat.reduceAdd, Nat.reduceLT, Nat.reduceLeDiff, Nat.reduceMul, Nat.reduceSub, not_true_eq_false, not_false_eq_true, and_self, and_true, true_and, and_false, false_and, am_I_wI, am_I_wJ, am_J_wI, am_J_wJ, am_R_wI, am_R_wJ, am_kd_wI, am_kd_wJ, am_ln_wI, am_ln_wJ, am_ix_wI, am_ix_wJ, am_F_wI, am_F_wJ, am_I_wC, am_J_wC, am_R_wC, am_kd_wC, am_ln_wC, am_ix_wC, am_F_wC, hF, kd0, rr0_2, kd8, m77s h hO hg hg4, c1, c2', kdG hF (isGa8 hg4), cR_Tl h hg4]
  · rw [e]
    refine ⟨σ, ?_, h, am_pi.rf hF⟩
    simp only [s103_0, s103_1, s103_4, s103_5, s103_8, s103_8n, s103_9, s103_9n, s103_10n, s103_10, s103_13, s103_15, s103_16, s103_17, s103_20, s103_21, s103_23, s103_26, s103_28, s103_29, s103_29n, s103_30, s103_33, s103_35, s103_35n, s103_36, s103_37, s103_40, s103_42, am_pu_s, am_pu_n, va_rf_s, va_rf_n, Option.bind_some, true_or, or_true, eq_self, if_true, if_false, ite_self, ite_true, ite_false, ↓reduceIte, reduceCtorEq, Nat.reduceEqDiff, Nat.reduceAdd, Nat.reduceLT, Nat.reduceLeDiff, Nat.reduceMul, Nat.reduceSub, not_true_eq_false, not_false_eq_true, and_self, and_true, true_and, and_false, false_and, hF, kd0, rr0_2, kd8, m77n h hO e]
theorem c182 (h : mRep S σ) (hO : sOK N S) : ∃ σ', am_v X (d + 3) 182 [.ref (66 : Nat), .int v, .int w] σ = some (some (.int (oWin S v w).1), σ') ∧ mRep (oWin S v w).2 σ' ∧ am_pi nsC σ σ' := by
  have hF := h.1
  unfold oWin
  rw [s182]
  rcases gI_c (sO_G hO) v with ⟨g, hg, hg4, rfl, e⟩ | e
  · rw [e]
    dsimp only
    by_cases c1 : w < nI 0 ∨ nI 6 < w
    · rw [if_pos c1]
      have hb : ¬ (nI 0 ≤ w ∧ w ≤ nI 6) := fun q => (wthin (by decide) rfl).mp q c1
      refine ⟨σ, ?_, h, am_pi.rf hF⟩
      simp only [s182_0, s182_1, s182_2, s182_5, s182_8, s182_10, s182_11, s182_12, s182_13, s182_15, s182_18, s182_21, s182_23, s182_24, s182_25, s182_28, s182_29, s182_30, s182_31, s182_32, s182_35, s182_36, s182_37, s182_38, s182_39, am_pu_s, am_pu_n, va_rf_s, va_rf_n, Option.bind_some, true_or, or_true, eq_self, if_true, if_false, ite_self, ite_true, ite_false, ↓reduceIte, reduceCtorEq, Nat.reduceEqDiff, Nat.reduceAdd, Nat.reduceLT, Nat.reduceLeDiff, Nat.reduceMul, Nat.reduceSub, not_true_eq_false, not_false_eq_true, and_self, and_true, true_and, and_false, false_and, hF, kd66, m153s h hO hg, nI_10, m124, bI_f hb]
    rw [if_neg c1]
    have hb : nI 0 ≤ w ∧ w ≤ nI 6 := (wthin (by decide) rfl).mpr c1
    obtain ⟨s, hs, rfl⟩ := i32_in (w := w) (n := 6) (by decide) c1
    rw [nI_cl (by omega)]
    refine ⟨am_wI σ 72 g (nI s), ?_, mRep_gt (i := 7) h (by decide) (by decide) hg4, (am_pi.rf hF).w (by rfl)⟩
    simp only [s182_0, s182_1, s182_2, s182_5, s182_8, s182_10, s182_11, s182_12, s182_13, s182_15, s182_18, s182_21, s182_23, s182_24, s182_25, s182_28, s182_29, s182_30, s182_31, s182_32, s182_35, s182_36, s182_37, s182_38, s182_39, am_pu_s, am_pu_n, va_rf_s, va_rf_n, Option.bind_some, true_or, or_true, eq_self, if_true, if_false, ite_self, ite_true, ite_false, ↓reduceIte, reduceCtorEq, Nat.reduceEqDiff, Nat.reduceAdd, Nat.reduceLT, Nat.reduceLeDiff, Nat.reduceMul, Nat.reduceSub, not_true_eq_false, not_false_eq_true, and_self, and_true, true_and, and_false, false_and, am_I_wI, am_I_wJ, am_J_wI, am_J_wJ, am_R_wI, am_R_wJ, am_kd_wI, am_kd_wJ, am_ln_wI, am_ln_wJ, am_ix_wI, am_ix_wJ, am_F_wI, am_F_wJ, am_I_wC, am_J_wC, am_R_wC, am_kd_wC, am_ln_wC, am_ix_wC, am_F_wC, hF, kd66, rr66_8, m153s h hO hg, nI_10, m124, bI_t hb, ix72 hF hg4, nI_cl (show g < 2147483648 by omega), mR_Wd h hg4]
  · rw [e]
    refine ⟨σ, ?_, h, am_pi.rf hF⟩
    simp only [s182_0, s182_1, s182_2, s182_5, s182_8, s182_10, s182_11, s182_12, s182_13, s182_15, s182_18, s182_21, s182_23, s182_24, s182_25, s182_28, s182_29, s182_30, s182_31, s182_32, s182_35, s182_36, s182_37, s182_38, s182_39, am_pu_s, am_pu_n, va_rf_s, va_rf_n, Option.bind_some, true_or, or_true, eq_self, if_true, if_false, ite_self, ite_true, ite_false, ↓reduceIte, reduceCtorEq, Nat.reduceEqDiff, Nat.reduceAdd, Nat.reduceLT, Nat.reduceLeDiff, Nat.reduceMul, Nat.reduceSub, not_true_eq_false, not_false_eq_true, and_self, and_true, true_and, and_false, false_and, hF, kd66, m153n h hO e]
theorem c183 (h : mRep S σ) (hO : sOK N S) : ∃ σ', am_v X (d + 3) 183 [.ref (66 : Nat), .int v, .int w] σ = some (some (.int (oTol S v w).1), σ') ∧ mRep (oTol S v w).2 σ' ∧ am_pi nsC σ σ' := by
  have hF := h.1
  unfold oTol
  rw [s183]
  rcases gI_c (sO_G hO) v with ⟨g, hg, hg4, rfl, e⟩ | e
  · rw [e]
    dsimp only
    by_cases c1 : w < nI 0 ∨ nI 99 < w
    · rw [if_pos c1]
      have hb : ¬ (nI 0 ≤ w ∧ w ≤ nI 99) := fun q => (wthin (by decide) rfl).mp q c1
      refine ⟨σ, ?_, h, am_pi.rf hF⟩
      simp only [s183_0, s183_1, s183_2, s183_5, s183_8, s183_10, s183_11, s183_12, s183_13, s183_15, s183_18, s183_21, s183_23, s183_24, s183_25, s183_28, s183_29, s183_30, s183_31, s183_32, s183_35, s183_36, s183_37, s183_38, s183_39, am_pu_s, am_pu_n, va_rf_s, va_rf_n, Option.bind_some, true_or, or_true, eq_self, if_true, if_false, ite_self, ite_true, ite_false, ↓reduceIte, reduceCtorEq, Nat.reduceEqDiff, Nat.reduceAdd, Nat.reduceLT, Nat.reduceLeDiff, Nat.reduceMul, Nat.reduceSub, not_true_eq_false, not_false_eq_true, and_self, and_true, true_and, and_false, false_and, hF, kd66, m153s h hO hg, nI_10, m124, bI_f hb]
    rw [if_neg c1]
    have hb : nI 0 ≤ w ∧ w ≤ nI 99 := (wthin (by decide) rfl).mpr c1
    obtain ⟨s, hs, rfl⟩ := i32_in (w := w) (n := 99) (by decide) c1
    rw [nI_cl (by omega)]
    refine ⟨am_wI σ 71 g (nI s), ?_, mRep_gt (i := 6) h (by decide) (by decide) hg4, (am_pi.rf hF).w (by rfl)⟩
    simp only [s183_0, s183_1, s183_2, s183_5, s183_8, s183_10, s183_11, s183_12, s183_13, s183_15, s183_18, s183_21, s183_23, s183_24, s183_25, s183_28, s183_29, s183_30, s183_31, s183_32, s183_35, s183_36, s183_37, s183_38, s183_39, am_pu_s, am_pu_n, va_rf_s, va_rf_n, Option.bind_some, true_or, or_true, eq_self, if_true, if_false, ite_self, ite_true, ite_false, ↓reduceIte, reduceCtorEq, Nat.reduceEqDiff, Nat.reduceAdd, Nat.reduceLT, Nat.reduceLeDiff, Nat.reduceMul, Nat.reduceSub, not_true_eq_false, not_false_eq_true, and_self, and_true, true_and, and_false, false_and, am_I_wI, am_I_wJ, am_J_wI, am_J_wJ, am_R_wI, am_R_wJ, am_kd_wI, am_kd_wJ, am_ln_wI, am_ln_wJ, am_ix_wI, am_ix_wJ, am_F_wI, am_F_wJ, am_I_wC, am_J_wC, am_R_wC, am_kd_wC, am_ln_wC, am_ix_wC, am_F_wC, hF, kd66, rr66_7, m153s h hO hg, nI_10, m124, bI_t hb, ix71 hF hg4, nI_cl (show g < 2147483648 by omega), mR_T h hg4]
  · rw [e]
    refine ⟨σ, ?_, h, am_pi.rf hF⟩
    simp only [s183_0, s183_1, s183_2, s183_5, s183_8, s183_10, s183_11, s183_12, s183_13, s183_15, s183_18, s183_21, s183_23, s183_24, s183_25, s183_28, s183_29, s183_30, s183_31, s183_32, s183_35, s183_36, s183_37, s183_38, s183_39, am_pu_s, am_pu_n, va_rf_s, va_rf_n, Option.bind_some, true_or, or_true, eq_self, if_true, if_false, ite_self, ite_true, ite_false, ↓reduceIte, reduceCtorEq, Nat.reduceEqDiff, Nat.reduceAdd, Nat.reduceLT, Nat.reduceLeDiff, Nat.reduceMul, Nat.reduceSub, not_true_eq_false, not_false_eq_true, and_self, and_true, true_and, and_false, false_and, hF, kd66, m153n h hO e]
end MU
