/-! road -/
def sKd (c : Nat) : Nat := if c = 103 then 0 else if c = 99 then 1 else if c = 100 then 2 else if c = 115 then 3 else 4
theorem wKd_n : ∀ c, c < 200 → ¬ wKd (nI c) = -1 → wKd (nI c) = nI (sKd c) ∧ sKd c ≤ 4 := by decide +kernel
def sTl (S : am_St) (g : Nat) : Nat := 10 * (S 15 (4 * g + 1) 0 - 48) + S 15 (4 * g + 2) 0 - 48
def sGa (S : am_St) (g k t : Nat) : am_St := sU (sU (sU (sU (sU S 5 g k) 6 g t) 7 g 0) 8 g 0) 9 g 0
def sGs (S : am_St) (m : Nat) : am_St := am_fd (fun g S1 => sGa S1 g (sKd (S 15 (4 * g) 0)) (sTl S g)) 0 m (sU S 4 0 m)
def sM4 (S : am_St) : am_St := sMe (sMe (sMe (sMe S 0) 1) 2) 3
def sRo (S : am_St) (m : Nat) : am_St := sU (sU (sU (sU (sM4 (sGs S m)) 10 0 0) 14 0 0) 18 0 0) 16 0 (S 16 0 0 + 1)
def oRoa (S : am_St) : Int32 × am_St := if sWh S then (nI ((S 14 0 0 + 1) / 4), sRo S ((S 14 0 0 + 1) / 4)) else (-103, S)
theorem sGa_o (S : am_St) {g k t j : Nat} (h : j < 5 ∨ 9 < j) : sGa S g k t j = S j := by
  unfold sGa
  rw [sU_o _ (by omega), sU_o _ (by omega), sU_o _ (by omega), sU_o _ (by omega), sU_o _ (by omega)]
theorem sM4_o (S : am_St) {j : Nat} (h : ¬ j = 3) : sM4 S j = S j := by
  unfold sM4
  rw [sMe_o _ h, sMe_o _ h, sMe_o _ h, sMe_o _ h]
theorem sGs_o (S : am_St) {m j : Nat} (h : j < 4 ∨ 9 < j) : sGs S m j = S j := by
  unfold sGs
  exact am_fd_P (P := fun S1 : am_St => S1 j = S j) _ _ _ _ (fun k x _ _ q => by rw [sGa_o _ (by omega)]; exact q) (sU_o S (by omega))
theorem sGs_4 (S : am_St) {m : Nat} : sGs S m 4 0 0 = m := by
  unfold sGs
  exact am_fd_P (P := fun S1 : am_St => S1 4 0 0 = m) _ _ _ _ (fun k x _ _ q => by rw [sGa_o _ (by omega)]; exact q) (by rw [sU_at, if_pos rfl])
theorem sU_V (S : am_St) {i a v b g x : Nat} (h : ¬ i = 3) : sU (sV S b g x) i a v = sV (sU S i a v) b g x := by
  funext p y z
  show (if p = i ∧ y = a ∧ z = 0 then v else if p = 3 ∧ y = b ∧ z = g then x else S p y z) = (if p = 3 ∧ y = b ∧ z = g then x else if p = i ∧ y = a ∧ z = 0 then v else S p y z)
  by_cases c : p = 3
  · rw [if_neg (fun q : p = i ∧ y = a ∧ z = 0 => h (by omega)), if_neg (fun q : p = i ∧ y = a ∧ z = 0 => h (by omega))]
  · rw [if_neg (fun q : p = 3 ∧ y = b ∧ z = g => c q.1), if_neg (fun q : p = 3 ∧ y = b ∧ z = g => c q.1)]
theorem sU_M4 (S : am_St) {i a v : Nat} (h : ¬ i = 3) : sU (sM4 S) i a v = sM4 (sU S i a v) := by
  unfold sM4 sMe
  repeat rw [sU_V _ h]
theorem sU_Ga (S : am_St) {i a v g k t : Nat} (h : ¬ (5 ≤ i ∧ i ≤ 9)) : sU (sGa S g k t) i a v = sGa (sU S i a v) g k t := by
  unfold sGa
  rw [sU_c _ (show ¬ 9 = i by omega), sU_c _ (show ¬ 8 = i by omega), sU_c _ (show ¬ 7 = i by omega), sU_c _ (show ¬ 6 = i by omega), sU_c _ (show ¬ 5 = i by omega)]
theorem sU_Gs (S : am_St) {i a v m : Nat} (h : 15 < i) : sU (sGs S m) i a v = sGs (sU S i a v) m := by
  have e15 : sU S i a v 15 = S 15 := sU_o S (by omega)
  unfold sGs sTl
  rw [e15, sU_c S (show ¬ i = 4 by omega)]
  exact am_fd_g (f := fun g S1 => sGa S1 g (sKd (S 15 (4 * g) 0)) (10 * (S 15 (4 * g + 1) 0 - 48) + S 15 (4 * g + 2) 0 - 48)) (g := fun S => sU S i a v) (fun k S => sU_Ga S (by omega)) m 0 _
section MU
variable {X : am_X} {d N : Nat} {σ σ' : am_M} {S S' : am_St} {v w : Int32}
theorem wh_g (h : sWh S) {g : Nat} (hg : g < (S 14 0 0 + 1) / 4) : S 14 0 0 ≤ 15 ∧ 4 * g + 2 < S 14 0 0 ∧ ¬ wKd (nI (S 15 (4 * g) 0)) = -1 ∧ (48 ≤ S 15 (4 * g + 1) 0 ∧ S 15 (4 * g + 1) 0 ≤ 57) ∧ (48 ≤ S 15 (4 * g + 2) 0 ∧ S 15 (4 * g + 2) 0 ≤ 57) := by
  obtain ⟨h1, h2, h3⟩ := h
  have hf := sFa_is S
  have l15 : S 14 0 0 ≤ 15 := by
    by_cases q : S 14 0 0 ≤ 15
    · exact q
    · exact absurd (hf.2.1 15 (by omega)).1 (by decide)
  have o0 := (hf.2.1 (4 * g) (by omega)).2
  have o1 := (hf.2.1 (4 * g + 1) (by omega)).2
  have o2 := (hf.2.1 (4 * g + 2) (by omega)).2
  refine ⟨l15, by omega, ?_, ?_, ?_⟩
  · rcases o0 with q | q | q
    · exact q.2
    · omega
    · omega
  · rcases o1 with q | q | q
    · omega
    · omega
    · exact q.2.2
  · rcases o2 with q | q | q
    · omega
    · omega
    · exact q.2.2
theorem sO_4 (h : sOK N S) (h18 : S 18 0 0 = 0) {m : Nat} (hm : m ≤ 4) : sOK N (sU S 4 0 m) := by
  have e : ∀ j, ¬ j = 4 → sU S 4 0 m j = S j := fun j q => sU_o S q
  obtain ⟨⟨w1, w2, w3, w4, w5⟩, h2, h3, h4, h5⟩ := h
  refine ⟨⟨fun b hb => ?_, ?_, fun g hg => ?_, ?_, fun j hj => ?_⟩, h2, h3, h4, fun q => ?_⟩
  · rw [e _ (by omega), e _ (by omega), e _ (by omega), e _ (by omega)]; exact w1 b hb
  · show sU S 4 0 m 4 0 0 ≤ 4
    rw [sU_at, if_pos rfl]; exact hm
  · rw [e _ (by omega), e _ (by omega), e _ (by omega)]; exact w3 g hg
  · rw [e _ (by omega)]; exact w4
  · rw [e _ (by omega), e _ (by omega), e _ (by omega)]; exact w5 j hj
  · have : S 18 0 0 = 1 := q
    omega
theorem sO_5 (h : sOK N S) (h18 : S 18 0 0 = 0) {g k : Nat} (hk : k ≤ 4) : sOK N (sU S 5 g k) := by
  have e : ∀ j, ¬ j = 5 → sU S 5 g k j = S j := fun j q => sU_o S q
  obtain ⟨⟨w1, w2, w3, w4, w5⟩, h2, h3, h4, h5⟩ := h
  refine ⟨⟨fun b hb => ?_, ?_, fun g' hg => ?_, ?_, fun j hj => ?_⟩, h2, h3, h4, fun q => ?_⟩
  · rw [e _ (by omega), e _ (by omega), e _ (by omega), e _ (by omega)]; exact w1 b hb
  · rw [e _ (by omega)]; exact w2
  · rw [e (0 + 6) (by omega), e (0 + 7) (by omega)]
    refine ⟨?_, (w3 g' hg).2⟩
    show sU S 5 g k 5 g' 0 ≤ 4
    rw [sU_at]
    split
    · exact hk
    · exact (w3 g' hg).1
  · rw [e _ (by omega)]; exact w4
  · rw [e _ (by omega), e _ (by omega), e _ (by omega)]; exact w5 j hj
  · have : S 18 0 0 = 1 := q
    omega
theorem sO_gt (h : sOK N S) {i g x : Nat} (h6 : 6 ≤ i) (h9 : i ≤ 9) (hx6 : i = 6 → x ≤ 99) (hx7 : i = 7 → x ≤ 6) : sOK N (sU S i g x) := by
  have eS : ∀ j, j < 6 → sU S i g x j = S j := fun j q => sU_o S (by omega)
  have eS' : ∀ j, 10 ≤ j → sU S i g x j = S j := fun j q => sU_o S (by omega)
  exact sOK_m h (fun j q => eS' j (by omega)) (eS _ (by omega)) (eS _ (by omega)) (wOK_gt h h6 h9 hx6 hx7).1
theorem sO_10 (h : sOK N S) : sOK N (sU S 10 0 0) := sOK_m h (fun i q => sU_o S (by omega)) (sU_o S (by omega)) (sU_o S (by omega)) (oFor_ok h).1
theorem oRoa_ok (h : sOK N S) : sOK (N + 1) (oRoa S).2 := by
  unfold oRoa
  split
  · rename_i hw
    have hL := sO_L h
    have up := sOK_up h
    obtain ⟨m, hm⟩ : ∃ m, m = (S 14 0 0 + 1) / 4 := ⟨_, rfl⟩
    have hG := fun g (hg : g < (S 14 0 0 + 1) / 4) => wh_g hw hg
    have m4 : m ≤ 4 := by
      by_cases q : m = 0
      · omega
      · have := (hG 0 (by omega)).1
        omega
    rw [← hm]
    rw [← hm] at hG
    unfold sRo
    rw [sU_c _ (show ¬ 14 = 18 by decide), sU_c _ (show ¬ 10 = 18 by decide), sU_M4 _ (by decide), sU_Gs _ (by decide)]
    have h0 : sOK (N + 1) (sU S 18 0 0) := ⟨wOK_S (fun i _ q => sU_o S (by omega)) up.1, up.2.1, up.2.2.1, by show 0 ≤ 1; omega, fun q => absurd (show 0 = 1 from q) (by decide)⟩
    have h1 : sOK (N + 1) (sU (sU S 18 0 0) 4 0 m) := sO_4 h0 rfl m4
    have e15 : sU S 18 0 0 15 = S 15 := sU_o S (by decide)
    have h2 : sOK (N + 1) (sGs (sU S 18 0 0) m) ∧ sGs (sU S 18 0 0) m 18 0 0 = 0 := by
      unfold sGs sTl
      rw [e15]
      refine am_fd_P (P := fun S1 : am_St => sOK (N + 1) S1 ∧ S1 18 0 0 = 0) _ _ _ _ (fun k x _ q2 q => ?_) ⟨h1, rfl⟩
      obtain ⟨_, b1, b2, b3, b4⟩ := hG k (by omega)
      have c1 := (sO_P h (show 4 * k < S 14 0 0 by omega)).2
      have kd := (wKd_n _ (show S 15 (4 * k) 0 < 200 by omega) b2).2
      refine ⟨sO_gt (sO_gt (sO_gt (sO_gt (sO_5 q.1 q.2 kd) (by decide) (by decide) (fun _ => by omega) (fun q => absurd q (by decide))) (by decide) (by decide) (fun q => absurd q (by decide)) (fun _ => by decide)) (by decide) (by decide) (fun q => absurd q (by decide)) (fun q => absurd q (by decide))) (by decide) (by decide) (fun q => absurd q (by decide)) (fun q => absurd q (by decide)), ?_⟩
      rw [sGa_o _ (by omega)]; exact q.2
    have h3 : sOK (N + 1) (sM4 (sGs (sU S 18 0 0) m)) := sOK_me (sOK_me (sOK_me (sOK_me h2.1 0) 1) 2) 3
    have h4 := sOK_14 (sO_10 h3)
    have h16 := h.2.2.1
    obtain ⟨a1, a2, a3, a4, a5⟩ := h4
    exact ⟨wOK_S (fun i _ q => sU_o _ (by omega)) a1, a2, by show S 16 0 0 + 1 ≤ N + 1; omega, a4, fun q => by
      obtain ⟨x1, x2, x3⟩ := a5 q
      exact ⟨wOK_S (fun i _ q => sU_o _ (by omega)) x1, x2, x3⟩⟩
  · exact sOK_up h
/-! the class -/
theorem m34k (h : cRep S σ) (hL : S 14 0 0 ≤ 40) {g : Nat} (hg : g * 4 < S 14 0 0) : am_v X (d + 2) 34 [.ref (1 : Nat), .int (nI g)] σ = some (some (.int (wKd (nI (S 15 (g * 4) 0)))), σ) := by
  have e37 : am_v X (d + 1) 37 [.int (nI (S 15 (g * 4) 0))] σ = some (some (.int (wKd (nI (S 15 (g * 4) 0)))), σ) := m37
  rw [s34]
  simp only [s34_0, s34_1, s34_2, s34_3, s34_4, s34_7, s34_10, am_pu_s, am_pu_n, va_rf_s, va_rf_n, Option.bind_some, true_or, or_true, eq_self, if_true, if_false, ite_self, ite_true, ite_false, ↓reduceIte, reduceCtorEq, Nat.reduceEqDiff, Nat.reduceAdd, Nat.reduceLT, Nat.reduceLeDiff, Nat.reduceMul, Nat.reduceSub, not_true_eq_false, not_false_eq_true, and_self, and_true, true_and, and_false, false_and, h.1, kd1, pk_mul, m24 h.1 (cR_L h) hL hg, cR_P h hg, e37]
theorem m35k (h : cRep S σ) (hL : S 14 0 0 ≤ 40) {g : Nat} (hg : g * 4 + 2 < S 14 0 0) (h1 : 48 ≤ S 15 (g * 4 + 1) 0) (h2 : 48 ≤ S 15 (g * 4 + 2) 0) : am_v X (d + 2) 35 [.ref (1 : Nat), .int (nI g)] σ = some (some (.int (nI (10 * (S 15 (g * 4 + 1) 0 - 48) + S 15 (g * 4 + 2) 0 - 48))), σ) := by
  have hg1 : g * 4 + 1 < S 14 0 0 := by omega
  rw [s35]
  simp only [s35_0, s35_1, s35_2, s35_3, s35_4, s35_5, s35_6, s35_9, s35_11, s35_12, s35_13, s35_15, s35_16, s35_17, s35_18, s35_19, s35_20, s35_21, s35_22, s35_23, s35_26, s35_27, s35_29, s35_30, am_pu_s, am_pu_n, va_rf_s, va_rf_n, Option.bind_some, true_or, or_true, eq_self, if_true, if_false, ite_self, ite_true, ite_false, ↓reduceIte, reduceCtorEq, Nat.reduceEqDiff, Nat.reduceAdd, Nat.reduceLT, Nat.reduceLeDiff, Nat.reduceMul, Nat.reduceSub, not_true_eq_false, not_false_eq_true, and_self, and_true, true_and, and_false, false_and, h.1, kd1, pk_mul, nI_add, m24 h.1 (cR_L h) hL hg1, m24 h.1 (cR_L h) hL hg, cR_P h hg1, cR_P h hg, pk_sub h1, pk_sub (show 48 ≤ 10 * (S 15 (g * 4 + 1) 0 - 48) + S 15 (g * 4 + 2) 0 by omega)]
theorem cRep_g5 (h : cRep S σ) {i g x : Nat} (h6 : 5 ≤ i) (h9 : i ≤ 9) (hg : g < 4) : cRep (sU S i g x) (am_wI σ (27 + g) (i - 4) (nI x)) := by
  refine cRep_n h (fun j q => sU_o S (by omega)) h.1 ?_ (fun a k q => by rw [am_I_wI, if_neg (by omega)])
  obtain ⟨w1, w2, w3, w4⟩ := h.2.1
  have eS : ∀ j, j < 5 → sU S i g x j = S j := fun j q => sU_o S (by omega)
  have eS' : ∀ j, 10 ≤ j → sU S i g x j = S j := fun j q => sU_o S (by omega)
  have gf : ∀ g', g' < 4 → ∀ f, 1 ≤ f → f ≤ 5 → am_I (am_wI σ (27 + g) (i - 4) (nI x)) (27 + g') f = nI (sU S i g x (f + 4) g' 0) := fun g' hg' f q1 q2 => by
    rw [sU_if, am_I_wI]
    by_cases c : f + 4 = i ∧ g' = g
    · rw [if_pos c, if_pos (by omega)]
    · rw [if_neg c, if_neg (by omega)]
      exact cG_f h hg' q1 q2
  refine ⟨?_, fun b hb => ⟨?_, fun q => ?_⟩, fun g' hg' => ⟨gf g' hg' 1 (by decide) (by decide), gf g' hg' 2 (by decide) (by decide), gf g' hg' 3 (by decide) (by decide), gf g' hg' 4 (by decide) (by decide), gf g' hg' 5 (by decide) (by decide)⟩, ?_, fun j hj => ?_⟩
  · rw [am_I_wI, if_neg (by omega), eS _ (by omega)]; exact w1
  · rw [eS _ (by omega), eS _ (by omega), eS _ (by omega)]
    exact (w2 b hb).1.pr fun a k q1 q2 => by rw [am_I_wI, if_neg (by omega)]
  · rw [eS _ (by omega)] at q
    rw [am_I_wI, if_neg (by omega), eS _ (by omega)]; exact (w2 b hb).2 q
  · rw [am_I_wI, if_neg (by omega), eS' _ (by omega)]; exact w4.1
  · rw [am_I_wI, if_neg (by omega), am_I_wI, if_neg (by omega), am_I_wI, if_neg (by omega), eS' _ (by omega), eS' _ (by omega), eS' _ (by omega)]; exact w4.2 j hj
theorem cRep_4 (h : cRep S σ) {x : Nat} : cRep (sU S 4 0 x) (am_wI σ 8 3 (nI x)) := by
  have e : ∀ j, ¬ j = 4 → sU S 4 0 x j = S j := fun j q => sU_o S q
  refine cRep_n h (fun j q => e j (by omega)) h.1 ?_ (fun a k q => by rw [am_I_wI, if_neg (by omega)])
  obtain ⟨w1, w2, w3, w4⟩ := h.2.1
  refine ⟨?_, fun b hb => ⟨?_, fun q => ?_⟩, fun g hg => ?_, ?_, fun j hj => ?_⟩
  · rw [am_I_wI, if_pos ⟨rfl, rfl⟩]; rfl
  · rw [e _ (by omega), e _ (by omega), e _ (by omega)]
    exact (w2 b hb).1.pr fun a k q1 q2 => by rw [am_I_wI, if_neg (by omega)]
  · rw [e _ (by omega)] at q
    rw [am_I_wI, if_neg (by omega), e _ (by omega)]; exact (w2 b hb).2 q
  · rw [e _ (by omega), e _ (by omega), e _ (by omega), e _ (by omega), e _ (by omega)]
    exact (w3 g hg).pr fun j => by rw [am_I_wI, if_neg (by omega)]
  · rw [am_I_wI, if_neg (by omega), e _ (by omega)]; exact w4.1
  · rw [am_I_wI, if_neg (by omega), am_I_wI, if_neg (by omega), am_I_wI, if_neg (by omega), e _ (by omega), e _ (by omega), e _ (by omega)]; exact w4.2 j hj
theorem cRep_18 (h : cRep S σ) : cRep (sU S 18 0 0) (am_wI σ 0 8 (nI 0)) := by
  refine ⟨h.1, cWld_S (fun i _ q => sU_o S (by omega)) (h.2.1.pr fun a k q1 q2 => ?_), fun q => absurd (show 0 = 1 from q) (by decide), ⟨?_, fun j hj => ?_⟩, fun g hg => ?_, ?_, ?_, ?_⟩
  · rw [am_I_wI, if_neg (by omega)]
  · rw [am_I_wI, if_neg (by omega)]; exact h.2.2.2.1.1
  · rw [am_I_wI, if_neg (by omega)]; exact h.2.2.2.1.2 j hj
  · rw [am_I_wI, if_neg (by omega)]; exact cR_no h hg
  · rw [am_I_wI, if_pos ⟨rfl, rfl⟩]; rfl
  · rw [am_I_wI, if_neg (by omega)]; exact h.2.2.2.2.2.2.1
  · rw [am_I_wI, if_neg (by omega)]; exact h.2.2.2.2.2.2.2
theorem cRep_16 (h : cRep S σ) {x : Nat} : cRep (sU S 16 0 x) (am_wI σ 0 9 (nI x)) := by
  refine ⟨h.1, cWld_S (fun i _ q => sU_o S (by omega)) (h.2.1.pr fun a k q1 q2 => ?_), cRep_K h (fun i q => sU_o S (by omega)) (fun a k q1 q2 => ?_), ⟨?_, fun j hj => ?_⟩, fun g hg => ?_, ?_, ?_, ?_⟩
  · rw [am_I_wI, if_neg (by omega)]
  · rw [am_I_wI, if_neg (by omega)]
  · rw [am_I_wI, if_neg (by omega)]; exact h.2.2.2.1.1
  · rw [am_I_wI, if_neg (by omega)]; exact h.2.2.2.1.2 j hj
  · rw [am_I_wI, if_neg (by omega)]; exact cR_no h hg
  · rw [am_I_wI, if_neg (by omega)]; exact h.2.2.2.2.2.1
  · rw [am_I_wI, if_pos ⟨rfl, rfl⟩]; rfl
  · rw [am_I_wI, if_neg (by omega)]; exact h.2.2.2.2.2.2.2
theorem m5 (h : cRep S σ) {g k t : Nat} (hg : g < 4) : ∃ σ', am_v X (d + 1) 5 [.ref (27 + g), .int (nI k), .int (nI t)] σ = some (none, σ') ∧ cRep (sGa S g k t) σ' ∧ am_pi nsM σ σ' := by
  have hF := h.1
  have kd := kdG hF (isGa8 hg)
  have h1 := cRep_g5 (i := 5) (x := k) h (by decide) (by decide) hg
  have h2 := cRep_g5 (i := 6) (x := t) h1 (by decide) (by decide) hg
  have h3 := cRep_g5 (i := 7) (x := 0) h2 (by decide) (by decide) hg
  have h4 := cRep_g5 (i := 8) (x := 0) h3 (by decide) (by decide) hg
  have h5 := cRep_g5 (i := 9) (x := 0) h4 (by decide) (by decide) hg
  have pp : am_pi nsM σ (am_wI (am_wI (am_wI (am_wI (am_wI σ (27 + g) 1 (nI k)) (27 + g) 2 (nI t)) (27 + g) 3 (nI 0)) (27 + g) 4 (nI 0)) (27 + g) 5 (nI 0)) := (((((am_pi.rf hF).w (ns_g hg)).w (ns_g hg)).w (ns_g hg)).w (ns_g hg)).w (ns_g hg)
  refine ⟨_, ?_, h5, pp⟩
  rw [s5]
  simp only [s5_0, s5_1, s5_2, s5_5, s5_6, s5_7, s5_10, s5_11, s5_12, s5_15, s5_16, s5_17, s5_20, s5_21, s5_22, s5_25, am_pu_s, am_pu_n, va_rf_s, va_rf_n, Option.bind_some, true_or, or_true, eq_self, if_true, if_false, ite_self, ite_true, ite_false, ↓reduceIte, reduceCtorEq, Nat.reduceEqDiff, Nat.reduceAdd, Nat.reduceLT, Nat.reduceLeDiff, Nat.reduceMul, Nat.reduceSub, not_true_eq_false, not_false_eq_true, and_self, and_true, true_and, and_false, false_and, am_I_wI, am_I_wJ, am_J_wI, am_J_wJ, am_R_wI, am_R_wJ, am_kd_wI, am_kd_wJ, am_ln_wI, am_ln_wJ, am_ix_wI, am_ix_wJ, am_F_wI, am_F_wJ, am_I_wC, am_J_wC, am_R_wC, am_kd_wC, am_ln_wC, am_ix_wC, am_F_wC, kd]
theorem m78 (h : cRep S σ) (hO : sOK N S) (hw : sWh S) : ∃ σ', am_v X (d + 3) 78 [.ref (8 : Nat), .ref (1 : Nat)] σ = some (none, σ') ∧ cRep (sU (sM4 (sGs S ((S 14 0 0 + 1) / 4))) 10 0 0) σ' ∧ am_pi nsM σ σ' := by
  have hF := h.1
  have hL := sO_L hO
  have e33 := m33 (X := X) (d := d + 1) h hO
  obtain ⟨m, hm⟩ : ∃ m, m = (S 14 0 0 + 1) / 4 := ⟨_, rfl⟩
  have hG := fun g (hg : g < (S 14 0 0 + 1) / 4) => wh_g hw hg
  rw [← hm] at hG e33 ⊢
  have m4 : m ≤ 4 := by
    by_cases q : m = 0
    · omega
    · have := (hG 0 (by omega)).1
      omega
  have h1 := cRep_4 (x := m) h
  have p1 : am_pi nsM σ (am_wI σ 8 3 (nI m)) := (am_pi.rf hF).w (by rfl)
  obtain ⟨σ1, e1, h2, a14, a15, a4, p2⟩ := am_lps (fun k (_ : am_St) σ1 => am_w X (d + 2) 78 14 [some (.ref (8 : Nat)), some (.ref (1 : Nat)), some (.int (nI k))] [] σ1) (fun g S1 => sGa S1 g (sKd (S 15 (4 * g) 0)) (sTl S g)) m (fun _ S1 σ1 => cRep S1 σ1 ∧ S1 14 = S 14 ∧ S1 15 = S 15 ∧ S1 4 0 0 = m ∧ am_pi nsM σ σ1) (fun k S1 σ1 hk hp => by
    obtain ⟨g1, g2, g3, g4, g5⟩ := hp
    have hk4 : k < 4 := by omega
    obtain ⟨_, b1, b2, b3, b4⟩ := hG k hk
    have c1 := (sO_P hO (show 4 * k < S 14 0 0 by omega)).2
    have kd := (wKd_n _ (show S 15 (4 * k) 0 < 200 by omega) b2).1
    have e34 := m34k (X := X) (d := d) (g := k) g1 (by rw [g2]; exact hL) (by rw [g2]; omega)
    have e35 := m35k (X := X) (d := d) (g := k) g1 (by rw [g2]; exact hL) (by rw [g2]; omega) (by rw [g3, Nat.mul_comm]; exact b3.1) (by rw [g3, Nat.mul_comm]; exact b4.1)
    rw [g3, Nat.mul_comm k 4, kd] at e34
    rw [g3, Nat.mul_comm k 4] at e35
    have c0 : ¬ nI m ≤ nI k := nI_ge hk (by omega)
    have rG := cR_G g1
    rw [g4] at rG
    obtain ⟨σ2, e5, h5, p5⟩ := m5 (X := X) (d := d + 1) (k := sKd (S 15 (4 * k) 0)) (t := sTl S k) g1 hk4
    unfold sTl at e5
    refine ⟨σ2, ?_, h5, by rw [sGa_o _ (by omega)]; exact g2, by rw [sGa_o _ (by omega)]; exact g3, by rw [sGa_o _ (by omega)]; exact g4, g5.tr p5⟩
    try dsimp only
    rw [s78_14]
    simp only [s78_15, s78_16, s78_19, s78_22, s78_23, s78_26, s78_27, s78_28, s78_29, s78_30, s78_33, s78_34, s78_35, s78_38, s78_41, s78_44, am_pu_s, am_pu_n, va_rf_s, va_rf_n, Option.bind_some, true_or, or_true, eq_self, if_true, if_false, ite_self, ite_true, ite_false, ↓reduceIte, reduceCtorEq, Nat.reduceEqDiff, Nat.reduceAdd, Nat.reduceLT, Nat.reduceLeDiff, Nat.reduceMul, Nat.reduceSub, not_true_eq_false, not_false_eq_true, and_self, and_true, true_and, and_false, false_and, g1.1, kd8, rr8_1, rG, c0, ix10 g1.1 hk4, nI_cl (show k < 2147483648 by omega), rGa8 g1.1 hk4, e34, e35, kdG g1.1 (isGa8 hk4), e5, nI_add]) m 0 _ _ (by omega) ⟨h1, sU_o S (by decide), sU_o S (by decide), by rw [sU_at, if_pos rfl], p1⟩
  have h2' : cRep (sGs S m) σ1 := h2
  obtain ⟨σ2, e2, h3, p3⟩ := am_lps (fun k (_ : am_St) σ1 => am_w X (d + 2) 78 49 [some (.ref (8 : Nat)), some (.ref (1 : Nat)), some (.int (nI k))] [] σ1) (fun b S1 => sMe S1 b) 4 (fun _ S1 σ1 => cRep S1 σ1 ∧ am_pi nsM σ σ1) (fun k S1 σ1 hk hp => by
    obtain ⟨g1, g2⟩ := hp
    have c0 : ¬ nI 4 ≤ nI k := nI_ge hk (by decide)
    have e49 := m49 (X := X) (d := d + 1) g1 hk
    refine ⟨_, ?_, cRep_me g1 hk, (((g2.w (ns_t (j := 2) (k := 0) hk (by decide)) (v := nI 0)).w (ns_t (j := 2) (k := 1) hk (by decide)) (v := nI 0)).w (ns_t (j := 2) (k := 2) hk (by decide)) (v := nI 0)).w (ns_t (j := 2) (k := 3) hk (by decide)) (v := nI 0)⟩
    try dsimp only
    rw [s78_49]
    simp only [s78_50, s78_51, s78_54, s78_55, s78_58, s78_59, s78_60, s78_63, s78_66, am_pu_s, am_pu_n, va_rf_s, va_rf_n, Option.bind_some, true_or, or_true, eq_self, if_true, if_false, ite_self, ite_true, ite_false, ↓reduceIte, reduceCtorEq, Nat.reduceEqDiff, Nat.reduceAdd, Nat.reduceLT, Nat.reduceLeDiff, Nat.reduceMul, Nat.reduceSub, not_true_eq_false, not_false_eq_true, and_self, and_true, true_and, and_false, false_and, g1.1, kd8, rr8_0, c0, ix9 g1.1 hk, nI_cl (show k < 2147483648 by omega), rTu8 g1.1 hk, kdT g1.1 (isTu8 hk), e49, nI_add]) 4 0 (sGs S m) σ1 (by omega) ⟨h2', p2⟩
  have h3' : cRep (sM4 (sGs S m)) σ2 := h3
  have h4 := cRep_sc (x := 0) h3'
  refine ⟨_, ?_, h4, p3.w (by rfl)⟩
  have hF2 := h3'.1
  have e39 : am_v X (d + 2) 39 [.ref (11 : Nat)] σ2 = some (none, am_wI σ2 11 3 (nI 0)) := by
    rw [s39]
    simp only [s39_0, s39_1, s39_2, s39_5, am_pu_s, am_pu_n, va_rf_s, va_rf_n, Option.bind_some, true_or, or_true, eq_self, if_true, if_false, ite_self, ite_true, ite_false, ↓reduceIte, reduceCtorEq, Nat.reduceEqDiff, Nat.reduceAdd, Nat.reduceLT, Nat.reduceLeDiff, Nat.reduceMul, Nat.reduceSub, not_true_eq_false, not_false_eq_true, and_self, and_true, true_and, and_false, false_and, hF2, kd11]
  have mn : (if nI 4 < nI m then nI 4 else nI m) = nI m := if_neg (nI_nlt m4 (by decide))
  have rG := cR_G h2'
  rw [sGs_4] at rG
  have c1 : nI 4 ≤ nI 4 := Int32.le_refl _
  rw [s78]
  simp only [s78_0, s78_1, s78_2, s78_5, s78_6, s78_9, s78_12, s78_13, am_pu_s, am_pu_n, va_rf_s, va_rf_n, Option.bind_some, true_or, or_true, eq_self, if_true, if_false, ite_self, ite_true, ite_false, ↓reduceIte, reduceCtorEq, Nat.reduceEqDiff, Nat.reduceAdd, Nat.reduceLT, Nat.reduceLeDiff, Nat.reduceMul, Nat.reduceSub, not_true_eq_false, not_false_eq_true, and_self, and_true, true_and, and_false, false_and, am_I_wI, am_I_wJ, am_J_wI, am_J_wJ, am_R_wI, am_R_wJ, am_kd_wI, am_kd_wJ, am_ln_wI, am_ln_wJ, am_ix_wI, am_ix_wJ, am_F_wI, am_F_wJ, am_I_wC, am_J_wC, am_R_wC, am_kd_wC, am_ln_wC, am_ix_wC, am_F_wC, hF, kd8, e33, m218, mn]
  refine Eq.trans e1 ?_
  try dsimp only
  rw [s78_14]
  simp only [s78_15, s78_16, s78_19, s78_47, s78_48, am_pu_s, am_pu_n, va_rf_s, va_rf_n, Option.bind_some, true_or, or_true, eq_self, if_true, if_false, ite_self, ite_true, ite_false, ↓reduceIte, reduceCtorEq, Nat.reduceEqDiff, Nat.reduceAdd, Nat.reduceLT, Nat.reduceLeDiff, Nat.reduceMul, Nat.reduceSub, not_true_eq_false, not_false_eq_true, and_self, and_true, true_and, and_false, false_and, h2.1, kd8, rG, Int32.le_refl]
  refine Eq.trans e2 ?_
  try dsimp only
  rw [s78_49]
  simp only [s78_50, s78_51, s78_69, s78_70, s78_73, s78_76, am_pu_s, am_pu_n, va_rf_s, va_rf_n, Option.bind_some, true_or, or_true, eq_self, if_true, if_false, ite_self, ite_true, ite_false, ↓reduceIte, reduceCtorEq, Nat.reduceEqDiff, Nat.reduceAdd, Nat.reduceLT, Nat.reduceLeDiff, Nat.reduceMul, Nat.reduceSub, not_true_eq_false, not_false_eq_true, and_self, and_true, true_and, and_false, false_and, c1, hF2, kd8, kd11, rr8_2, e39]
theorem c90 (h : cRep S σ) (hO : sOK N S) : ∃ σ', am_v X (d + 5) 90 [.ref (0 : Nat)] σ = some (some (.int (oRoa S).1), σ') ∧ cRep (oRoa S).2 σ' ∧ am_pi nsM σ σ' := by
  have hF := h.1
  have e32 := m32 (X := X) (d := d) h hO
  unfold oRoa
  rw [s90]
  by_cases c : sWh S
  · rw [if_pos c]
    rw [bI_t c] at e32
    obtain ⟨σ1, e1, h1, p1⟩ := m78 (X := X) (d := d + 1) h hO c
    have h2 := cRep_p0 h1
    have h3 := cRep_18 h2
    have r9 : am_I (am_wI (am_wI σ1 1 1 (nI 0)) 0 8 (nI 0)) 0 9 = nI (S 16 0 0) := by
      have q := h3.2.2.2.2.2.2.1
      rw [sU_o _ (by decide), sU_o _ (by decide), sU_o _ (by decide), sM4_o _ (by decide), sGs_o _ (by decide)] at q
      exact q
    have h4 := cRep_16 (x := S 16 0 0 + 1) h3
    have rG := cR_G h4
    rw [sU_o _ (by decide), sU_o _ (by decide), sU_o _ (by decide), sU_o _ (by decide), sM4_o _ (by decide), sGs_4] at rG
    have pp : am_pi nsM σ (am_wI (am_wI (am_wI σ1 1 1 (nI 0)) 0 8 (nI 0)) 0 9 (nI (S 16 0 0 + 1))) := ((p1.w (by rfl)).w (by rfl)).w (by rfl)
    refine ⟨_, ?_, h4, pp⟩
    have hF1 := h1.1
    have hF2 := h2.1
    have hF3 := h3.1
    have hF4 := h4.1
    simp only [s90_0, s90_1, s90_4, s90_7, s90_10, s90_12, s90_13, s90_14, s90_17, s90_18, s90_21, s90_24, s90_25, s90_28, s90_31, s90_32, s90_33, s90_36, s90_37, s90_38, s90_41, s90_42, s90_43, s90_46, s90_47, s90_50, s90_53, am_pu_s, am_pu_n, va_rf_s, va_rf_n, Option.bind_some, true_or, or_true, eq_self, if_true, if_false, ite_self, ite_true, ite_false, ↓reduceIte, reduceCtorEq, Nat.reduceEqDiff, Nat.reduceAdd, Nat.reduceLT, Nat.reduceLeDiff, Nat.reduceMul, Nat.reduceSub, not_true_eq_false, not_false_eq_true, and_self, and_true, true_and, and_false, false_and, hF, hF1, hF2, hF3, hF4, kd0, kd1, kd8, rr0_0, rr0_2, e32, nI_10, e1, m23 hF1, r9, nI_add, rG]
  · rw [if_neg c]
    rw [bI_f c] at e32
    refine ⟨σ, ?_, h, am_pi.rf hF⟩
    simp only [s90_0, s90_1, s90_4, s90_7, s90_10, s90_12, s90_13, s90_14, s90_17, s90_18, s90_21, s90_24, s90_25, s90_28, s90_31, s90_32, s90_33, s90_36, s90_37, s90_38, s90_41, s90_42, s90_43, s90_46, s90_47, s90_50, s90_53, am_pu_s, am_pu_n, va_rf_s, va_rf_n, Option.bind_some, true_or, or_true, eq_self, if_true, if_false, ite_self, ite_true, ite_false, ↓reduceIte, reduceCtorEq, Nat.reduceEqDiff, Nat.reduceAdd, Nat.reduceLT, Nat.reduceLeDiff, Nat.reduceMul, Nat.reduceSub, not_true_eq_false, not_false_eq_true, and_self, and_true, true_and, and_false, false_and, hF, kd0, rr0_0, e32]
end MU
