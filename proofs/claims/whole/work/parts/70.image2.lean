/-! the class' image and restore: a world is copied -/
section MU
variable {X : am_X} {d N : Nat} {σ σ' : am_M} {S S' : am_St} {v w : Int32}
/-- a world copied so far: so many tunes, so many gates -/
def cpI (σ : am_M) (o c : Nat) (S : am_St) (nt ng : Nat) (σ1 : am_M) : Prop := am_F σ1 ∧ am_I σ1 o 3 = nI (S (c + 4) 0 0) ∧ (∀ a k, (a < o ∨ o + 22 < a) → am_I σ1 a k = am_I σ a k) ∧ (∀ g, g < 4 → am_I σ1 (o + 19 + g) 0 = am_I σ (o + 19 + g) 0) ∧ (∀ b, b < nt → cTun σ1 (o + 7 + 3 * b) (S (c + 1) b 0) (S c b) (S (c + 3) b) ∧ (0 < S (c + 1) b 0 → am_I σ1 (o + 7 + 3 * b) 3 = nI (S (c + 2) b 0))) ∧ ∀ g, g < ng → cGat σ1 (o + 19 + g) (S (c + 5) g 0) (S (c + 6) g 0) (S (c + 7) g 0) (S (c + 8) g 0) (S (c + 9) g 0)
theorem m79 {o p c : Nat} (hF : am_F σ) (ho : isWo o) (hp : isWo p) (hop : ¬ o = p) (h : cWld σ p S c) (hV : ∀ j, j < 8 → S (c + 13) j 0 ≤ 1) : ∃ σ', am_v X (d + 2) 79 [.ref o, .ref p] σ = some (none, σ') ∧ cWld σ' o S c ∧ am_F σ' ∧ (∀ a k, (a < o ∨ o + 22 < a) → am_I σ' a k = am_I σ a k) ∧ ∀ g, g < 4 → am_I σ' (o + 19 + g) 0 = am_I σ (o + 19 + g) 0 := by
  have hop2 : (o = 8 ∧ p = 31) ∨ (o = 31 ∧ p = 8) := by
    rcases ho with ho | ho <;> rcases hp with hp | hp <;> omega
  have src : ∀ σ1, (∀ a k, (a < o ∨ o + 22 < a) → am_I σ1 a k = am_I σ a k) → cWld σ1 p S c := fun σ1 fr => h.pr fun a k q1 q2 => fr a k (by omega)
  have i0 : cpI σ o c S 0 0 (am_wI σ o 3 (am_I σ p 3)) := by
    refine ⟨hF, by rw [am_I_wI, if_pos ⟨rfl, rfl⟩]; exact h.1, fun a k q => by rw [am_I_wI, if_neg (by omega)], fun g hg => by rw [am_I_wI, if_neg (by omega)], fun b hb => absurd hb (by omega), fun g hg => absurd hg (by omega)⟩
  obtain ⟨σ1, e1, i1⟩ := am_lps (fun k (_ : Nat) σ1 => am_w X (d + 1) 79 10 [some (.ref o), some (.ref p), some (.int (nI k))] [] σ1) (fun _ q => q) 4 (fun k _ σ1 => cpI σ o c S k 0 σ1) (fun k _ σ1 hk hi => by
    obtain ⟨hF1, j1, fr, gn, jt, jg⟩ := hi
    have hs := src σ1 fr
    obtain ⟨⟨t1, t2, t3⟩, t4⟩ := hs.2.1 k hk
    have ho7 := isTuW ho hk
    have hp7 := isTuW hp hk
    have e50 := m50 (X := X) (d := d) hF1 ho7 hp7
    have c0 : ¬ nI 4 ≤ nI k := nI_ge hk (by decide)
    refine ⟨am_wC (am_wC (am_wI (am_wI σ1 (o + 7 + 3 * k) 2 (am_I σ1 (p + 7 + 3 * k) 2)) (o + 7 + 3 * k) 3 (am_I σ1 (p + 7 + 3 * k) 3)) (p + 7 + 3 * k + 1) (o + 7 + 3 * k + 1) 0 0 60) (p + 7 + 3 * k + 2) (o + 7 + 3 * k + 2) 0 0 4, ?_, ⟨hF1, ?_, fun a k' q => ?_, fun g hg => ?_, fun b hb => ?_, fun g hg => absurd hg (by omega)⟩⟩
    · try dsimp only
      rw [s79_10]
      simp only [s79_11, s79_12, s79_15, s79_16, s79_19, s79_20, s79_21, s79_22, s79_25, s79_26, s79_27, s79_30, s79_33, am_pu_s, am_pu_n, va_rf_s, va_rf_n, Option.bind_some, true_or, or_true, eq_self, if_true, if_false, ite_self, ite_true, ite_false, ↓reduceIte, reduceCtorEq, Nat.reduceEqDiff, Nat.reduceAdd, Nat.reduceLT, Nat.reduceLeDiff, Nat.reduceMul, Nat.reduceSub, not_true_eq_false, not_false_eq_true, and_self, and_true, true_and, and_false, false_and, c0, hF1, kdWo hF1 ho, kdWo hF1 hp, rW0 hF1 ho, rW0 hF1 hp, ixWT hF1 ho hk, ixWT hF1 hp hk, nI_cl (show k < 2147483648 by omega), rTu hF1 ho hk, rTu hF1 hp hk, kdT hF1 ho7, e50, nI_add]
    · rw [am_I_wC, if_neg (by omega), am_I_wC, if_neg (by omega), am_I_wI, if_neg (by omega), am_I_wI, if_neg (by omega)]; exact j1
    · rw [am_I_wC, if_neg (by omega), am_I_wC, if_neg (by omega), am_I_wI, if_neg (by omega), am_I_wI, if_neg (by omega)]; exact fr a k' q
    · rw [am_I_wC, if_neg (by omega), am_I_wC, if_neg (by omega), am_I_wI, if_neg (by omega), am_I_wI, if_neg (by omega)]; exact gn g hg
    · by_cases e : b = k
      · subst e
        refine ⟨⟨?_, fun j hj => ?_, fun g hg => ?_⟩, fun q => ?_⟩
        · rw [am_I_wC, if_neg (by omega), am_I_wC, if_neg (by omega), am_I_wI, if_neg (by omega), am_I_wI, if_pos ⟨rfl, rfl⟩]; exact t1
        · rw [am_I_wC, if_neg (by omega), am_I_wC, if_pos ⟨rfl, by omega, by omega⟩, am_I_wI, if_neg (by omega), am_I_wI, if_neg (by omega), Nat.zero_add, Nat.sub_zero]; exact t2 j hj
        · rw [am_I_wC, if_pos ⟨rfl, by omega, by omega⟩, am_I_wC, if_neg (by omega), am_I_wI, if_neg (by omega), am_I_wI, if_neg (by omega), Nat.zero_add, Nat.sub_zero]; exact t3 g hg
        · rw [am_I_wC, if_neg (by omega), am_I_wC, if_neg (by omega), am_I_wI, if_pos ⟨rfl, rfl⟩]; exact t4 q
      · obtain ⟨u1, u2⟩ := jt b (by omega)
        refine ⟨u1.pr fun a k' q1 q2 => ?_, fun q => ?_⟩
        · rw [am_I_wC, if_neg (by omega), am_I_wC, if_neg (by omega), am_I_wI, if_neg (by omega), am_I_wI, if_neg (by omega)]
        · rw [am_I_wC, if_neg (by omega), am_I_wC, if_neg (by omega), am_I_wI, if_neg (by omega), am_I_wI, if_neg (by omega)]; exact u2 q) 4 0 0 _ (by omega) i0
  obtain ⟨σ2, e2, i2⟩ := am_lps (fun k (_ : Nat) σ1 => am_w X (d + 1) 79 38 [some (.ref o), some (.ref p), some (.int (nI k))] [] σ1) (fun _ q => q) 4 (fun k _ σ1 => cpI σ o c S 4 k σ1) (fun k _ σ1 hk hi => by
    obtain ⟨hF1, j1, fr, gn, jt, jg⟩ := hi
    have hs := src σ1 fr
    obtain ⟨t1, t2, t3, t4, t5⟩ := hs.2.2.1 k hk
    have ho7 := isGaW ho hk
    have hp7 := isGaW hp hk
    have e6 := m6 (X := X) (d := d) hF1 ho7 hp7
    have c0 : ¬ nI 4 ≤ nI k := nI_ge hk (by decide)
    refine ⟨am_wI (am_wI (am_wI (am_wI (am_wI σ1 (o + 19 + k) 1 (am_I σ1 (p + 19 + k) 1)) (o + 19 + k) 2 (am_I σ1 (p + 19 + k) 2)) (o + 19 + k) 3 (am_I σ1 (p + 19 + k) 3)) (o + 19 + k) 4 (am_I σ1 (p + 19 + k) 4)) (o + 19 + k) 5 (am_I σ1 (p + 19 + k) 5), ?_, ⟨hF1, ?_, fun a k' q => ?_, fun g hg => ?_, fun b hb => ?_, fun g hg => ?_⟩⟩
    · try dsimp only
      rw [s79_38]
      simp only [s79_39, s79_40, s79_43, s79_44, s79_47, s79_48, s79_49, s79_50, s79_53, s79_54, s79_55, s79_58, s79_61, am_pu_s, am_pu_n, va_rf_s, va_rf_n, Option.bind_some, true_or, or_true, eq_self, if_true, if_false, ite_self, ite_true, ite_false, ↓reduceIte, reduceCtorEq, Nat.reduceEqDiff, Nat.reduceAdd, Nat.reduceLT, Nat.reduceLeDiff, Nat.reduceMul, Nat.reduceSub, not_true_eq_false, not_false_eq_true, and_self, and_true, true_and, and_false, false_and, c0, hF1, kdWo hF1 ho, kdWo hF1 hp, rW1 hF1 ho, rW1 hF1 hp, ixWG hF1 ho hk, ixWG hF1 hp hk, nI_cl (show k < 2147483648 by omega), rGa hF1 ho hk, rGa hF1 hp hk, kdG hF1 ho7, e6, nI_add]
    · rw [am_I_wI, if_neg (by omega), am_I_wI, if_neg (by omega), am_I_wI, if_neg (by omega), am_I_wI, if_neg (by omega), am_I_wI, if_neg (by omega)]; exact j1
    · rw [am_I_wI, if_neg (by omega), am_I_wI, if_neg (by omega), am_I_wI, if_neg (by omega), am_I_wI, if_neg (by omega), am_I_wI, if_neg (by omega)]; exact fr a k' q
    · rw [am_I_wI, if_neg (by omega), am_I_wI, if_neg (by omega), am_I_wI, if_neg (by omega), am_I_wI, if_neg (by omega), am_I_wI, if_neg (by omega)]; exact gn g hg
    · obtain ⟨u1, u2⟩ := jt b hb
      refine ⟨u1.pr fun a k' q1 q2 => ?_, fun q => ?_⟩
      · rw [am_I_wI, if_neg (by omega), am_I_wI, if_neg (by omega), am_I_wI, if_neg (by omega), am_I_wI, if_neg (by omega), am_I_wI, if_neg (by omega)]
      · rw [am_I_wI, if_neg (by omega), am_I_wI, if_neg (by omega), am_I_wI, if_neg (by omega), am_I_wI, if_neg (by omega), am_I_wI, if_neg (by omega)]; exact u2 q
    · by_cases e : g = k
      · subst e
        refine ⟨?_, ?_, ?_, ?_, ?_⟩
        · rw [am_I_wI, if_neg (by omega), am_I_wI, if_neg (by omega), am_I_wI, if_neg (by omega), am_I_wI, if_neg (by omega), am_I_wI, if_pos ⟨rfl, rfl⟩]; exact t1
        · rw [am_I_wI, if_neg (by omega), am_I_wI, if_neg (by omega), am_I_wI, if_neg (by omega), am_I_wI, if_pos ⟨rfl, rfl⟩]; exact t2
        · rw [am_I_wI, if_neg (by omega), am_I_wI, if_neg (by omega), am_I_wI, if_pos ⟨rfl, rfl⟩]; exact t3
        · rw [am_I_wI, if_neg (by omega), am_I_wI, if_pos ⟨rfl, rfl⟩]; exact t4
        · rw [am_I_wI, if_pos ⟨rfl, rfl⟩]; exact t5
      · exact (jg g (by omega)).pr fun j => by rw [am_I_wI, if_neg (by omega), am_I_wI, if_neg (by omega), am_I_wI, if_neg (by omega), am_I_wI, if_neg (by omega), am_I_wI, if_neg (by omega)]) 4 0 0 _ (by omega) i1
  obtain ⟨hF2, j1, fr, gn, jt, jg⟩ := i2
  have hs := src σ2 fr
  obtain ⟨t1, t2⟩ := hs.2.2.2
  have h01 : ∀ j, j < 8 → am_I σ2 (p + 6) j = nI 0 ∨ am_I σ2 (p + 6) j = nI 1 := fun j hj => by
    have e : am_I σ2 (p + 6) j = nI (S (c + 13) j 0) := (t2 j hj).2.2
    have hv := hV j hj
    have hv2 : S (c + 13) j 0 = 0 ∨ S (c + 13) j 0 = 1 := by omega
    rw [e]
    rcases hv2 with q | q
    · rw [q]; exact Or.inl rfl
    · rw [q]; exact Or.inr rfl
  obtain ⟨σ3, e41, hF3, f1, f2, f3⟩ := m41 (X := X) (d := d) hF2 ho hp hop h01
  refine ⟨σ3, ?_, ⟨?_, fun b hb => ?_, fun g hg => ?_, ?_, fun j hj => ⟨?_, ?_, ?_⟩⟩, hF3, fun a k q => ?_, fun g hg => ?_⟩
  · have c1 : nI 4 ≤ nI 4 := Int32.le_refl _
    rw [s79]
    simp only [s79_0, s79_1, s79_2, s79_5, s79_8, s79_9, am_pu_s, am_pu_n, va_rf_s, va_rf_n, Option.bind_some, true_or, or_true, eq_self, if_true, if_false, ite_self, ite_true, ite_false, ↓reduceIte, reduceCtorEq, Nat.reduceEqDiff, Nat.reduceAdd, Nat.reduceLT, Nat.reduceLeDiff, Nat.reduceMul, Nat.reduceSub, not_true_eq_false, not_false_eq_true, and_self, and_true, true_and, and_false, false_and, hF, kdWo hF ho, kdWo hF hp]
    refine Eq.trans e1 ?_
    try dsimp only
    rw [s79_10]
    simp only [s79_11, s79_12, s79_36, s79_37, am_pu_s, am_pu_n, va_rf_s, va_rf_n, Option.bind_some, true_or, or_true, eq_self, if_true, if_false, ite_self, ite_true, ite_false, ↓reduceIte, reduceCtorEq, Nat.reduceEqDiff, Nat.reduceAdd, Nat.reduceLT, Nat.reduceLeDiff, Nat.reduceMul, Nat.reduceSub, not_true_eq_false, not_false_eq_true, and_self, and_true, true_and, and_false, false_and, c1]
    refine Eq.trans e2 ?_
    try dsimp only
    rw [s79_38]
    simp only [s79_39, s79_40, s79_64, s79_65, s79_68, s79_69, s79_72, s79_75, am_pu_s, am_pu_n, va_rf_s, va_rf_n, Option.bind_some, true_or, or_true, eq_self, if_true, if_false, ite_self, ite_true, ite_false, ↓reduceIte, reduceCtorEq, Nat.reduceEqDiff, Nat.reduceAdd, Nat.reduceLT, Nat.reduceLeDiff, Nat.reduceMul, Nat.reduceSub, not_true_eq_false, not_false_eq_true, and_self, and_true, true_and, and_false, false_and, c1, hF2, kdWo hF2 ho, kdWo hF2 hp, rW2 hF2 ho, rW2 hF2 hp, (kdS hF2 ho).1, e41]
  · rw [f2 _ _ (by omega) (by omega) (by omega) (by omega)]; exact j1
  · obtain ⟨u1, u2⟩ := jt b hb
    refine ⟨u1.pr fun a k' q1 q2 => ?_, fun q => ?_⟩
    · rw [f2 _ _ (by omega) (by omega) (by omega) (by omega)]
    · rw [f2 _ _ (by omega) (by omega) (by omega) (by omega)]; exact u2 q
  · exact (jg g hg).pr fun j => by rw [f2 _ _ (by omega) (by omega) (by omega) (by omega)]
  · rw [f1]; exact t1
  · rw [(f3 j hj).1]; exact (t2 j hj).1
  · rw [(f3 j hj).2.1]; exact (t2 j hj).2.1
  · rw [(f3 j hj).2.2]; exact (t2 j hj).2.2
  · rw [f2 _ _ (by omega) (by omega) (by omega) (by omega)]; exact fr a k q
  · rw [f2 _ _ (by omega) (by omega) (by omega) (by omega)]; exact gn g hg
theorem c111 (h : cRep S σ) (hO : sOK N S) : ∃ σ', am_v X (d + 3) 111 [.ref (0 : Nat)] σ = some (some (.int (oIma S).1), σ') ∧ cRep (oIma S).2 σ' ∧ am_pi nsM σ σ' := by
  have hF := h.1
  have hG := sO_G hO
  unfold oIma
  have e0 : (nI (S 4 0 0) = nI 0) = (S 4 0 0 = 0) := nI_EQ (by omega) (by decide)
  rw [s111]
  by_cases c : S 4 0 0 = 0
  · rw [if_pos c]
    have t : (nI (S 4 0 0) = nI 0) = True := by rw [e0]; exact eq_true c
    refine ⟨σ, ?_, h, am_pi.rf hF⟩
    simp only [s111_0, s111_1, s111_4, s111_7, s111_10, s111_12, s111_13, s111_14, s111_17, s111_18, s111_21, s111_24, s111_25, s111_26, s111_29, s111_30, s111_33, s111_36, am_pu_s, am_pu_n, va_rf_s, va_rf_n, Option.bind_some, true_or, or_true, eq_self, if_true, if_false, ite_self, ite_true, ite_false, ↓reduceIte, reduceCtorEq, Nat.reduceEqDiff, Nat.reduceAdd, Nat.reduceLT, Nat.reduceLeDiff, Nat.reduceMul, Nat.reduceSub, not_true_eq_false, not_false_eq_true, and_self, and_true, true_and, and_false, false_and, hF, kd0, kd8, rr0_2, cR_G h, t]
  · rw [if_neg c]
    have t : ¬ nI (S 4 0 0) = nI 0 := by rw [e0]; exact c
    obtain ⟨σ1, e1, w1, hF1, fr, gn⟩ := m79 (X := X) (d := d) (o := 31) (p := 8) (c := 0) hF (Or.inr rfl) (Or.inl rfl) (by decide) h.2.1 (fun j hj => sO_sv hO hj)
    have fr' : ∀ a k, a < 31 → ¬ (a = 0 ∧ k = 8) → am_I (am_wI σ1 0 8 (nI 1)) a k = am_I σ a k := fun a k q q2 => by rw [am_I_wI, if_neg q2, fr a k (Or.inl q)]
    have w2 : cWld (am_wI σ1 0 8 (nI 1)) 31 S 0 := w1.pr fun a k q1 q2 => by rw [am_I_wI, if_neg (by omega)]
    have w3 : cWld (am_wI σ1 0 8 (nI 1)) 31 (sIm S) 20 := cWld_sh (S := S) (c := 0) (fun i hi => sIm_k S hi) w2
    have h' : cRep (sIm S) (am_wI σ1 0 8 (nI 1)) := by
      refine ⟨hF1, cWld_S (fun i _ q => sIm_o S (by omega) (by omega)) (h.2.1.pr fun a k q1 q2 => fr' a k (by omega) (by omega)), fun _ => w3, ⟨?_, fun j hj => ?_⟩, fun g hg => ?_, ?_, ?_, ?_⟩
      · rw [fr' _ _ (by omega) (by omega)]; exact h.2.2.2.1.1
      · rw [fr' _ _ (by omega) (by omega)]; exact h.2.2.2.1.2 j hj
      · rw [fr' _ _ (by omega) (by omega)]; exact cR_no h hg
      · rw [am_I_wI, if_pos ⟨rfl, rfl⟩]; rfl
      · rw [fr' _ _ (by omega) (by omega)]; exact h.2.2.2.2.2.2.1
      · rw [fr' _ _ (by omega) (by omega)]; exact h.2.2.2.2.2.2.2
    have e2 := m83 (X := X) (d := d + 1) (σ := am_wI σ1 0 8 (nI 1)) (o := 31) (c := 20) (S := sIm S) hF1 (Or.inr rfl) w3 hG
    refine ⟨_, ?_, h', ⟨hF1, fun a k q => ?_⟩⟩
    · simp only [s111_0, s111_1, s111_4, s111_7, s111_10, s111_12, s111_13, s111_14, s111_17, s111_18, s111_21, s111_24, s111_25, s111_26, s111_29, s111_30, s111_33, s111_36, am_pu_s, am_pu_n, va_rf_s, va_rf_n, Option.bind_some, true_or, or_true, eq_self, if_true, if_false, ite_self, ite_true, ite_false, ↓reduceIte, reduceCtorEq, Nat.reduceEqDiff, Nat.reduceAdd, Nat.reduceLT, Nat.reduceLeDiff, Nat.reduceMul, Nat.reduceSub, not_true_eq_false, not_false_eq_true, and_self, and_true, true_and, and_false, false_and, hF, hF1, h'.1, kd0, kd8, kd31, rr0_2, rr0_3, cR_G h, t, e1, e2]
      rfl
    · have := nsM_ge q
      rw [am_I_wI, if_neg (by omega), fr a k (by omega)]
theorem c112 (h : cRep S σ) (hO : sOK N S) : ∃ σ', am_v X (d + 3) 112 [.ref (0 : Nat)] σ = some (some (.int (oRes S).1), σ') ∧ cRep (oRes S).2 σ' ∧ am_pi nsM σ σ' := by
  have hF := h.1
  have h18 := h.2.2.2.2.2.1
  have b18 := hO.2.2.2.1
  unfold oRes
  rw [s112]
  by_cases c : S 18 0 0 = 1
  · rw [if_pos c]
    rw [c] at h18
    obtain ⟨kO, k4, k5⟩ := hO.2.2.2.2 c
    obtain ⟨σ1, e1, w1, hF1, fr, gn⟩ := m79 (X := X) (d := d) (o := 8) (p := 31) (c := 20) hF (Or.inl rfl) (Or.inr rfl) (by decide) (h.2.2.1 c) (fun j hj => (kO.2.2.2.2 j hj).2.2)
    have w3 : cWld σ1 8 (sRe S) 0 := cWld_sh (S := S) (c := 20) (fun i hi => sRe_k S hi) w1
    have h' : cRep (sRe S) σ1 := by
      refine ⟨hF1, w3, fun _ => cWld_S (fun i q1 q => sRe_o S (by omega)) ((h.2.2.1 c).pr fun a k q1 q2 => fr a k (by omega)), ⟨?_, fun j hj => ?_⟩, fun g hg => ?_, ?_, ?_, ?_⟩
      · rw [fr _ _ (by omega)]; exact h.2.2.2.1.1
      · rw [fr _ _ (by omega)]; exact h.2.2.2.1.2 j hj
      · rw [gn g hg]; exact cR_no h hg
      · rw [fr _ _ (by omega)]; exact h.2.2.2.2.2.1
      · rw [fr _ _ (by omega)]; exact h.2.2.2.2.2.2.1
      · rw [fr _ _ (by omega)]; exact h.2.2.2.2.2.2.2
    have e2 := m83 (X := X) (d := d + 1) (σ := σ1) (o := 8) (c := 0) (S := sRe S) hF1 (Or.inl rfl) w3 (show S 24 0 0 ≤ 4 from kO.2.1)
    refine ⟨σ1, ?_, h', ⟨hF1, fun a k q => ?_⟩⟩
    · simp only [s112_0, s112_1, s112_4, s112_7, s112_9, s112_10, s112_11, s112_14, s112_15, s112_18, s112_21, s112_22, s112_25, s112_28, am_pu_s, am_pu_n, va_rf_s, va_rf_n, Option.bind_some, true_or, or_true, eq_self, if_true, if_false, ite_self, ite_true, ite_false, ↓reduceIte, reduceCtorEq, Nat.reduceEqDiff, Nat.reduceAdd, Nat.reduceLT, Nat.reduceLeDiff, Nat.reduceMul, Nat.reduceSub, not_true_eq_false, not_false_eq_true, and_self, and_true, true_and, and_false, false_and, hF, hF1, kd0, kd8, rr0_2, rr0_3, h18, nI_10, e1, e2]
      rfl
    · have := nsM_ge q
      exact fr a k (by omega)
  · rw [if_neg c]
    rw [show S 18 0 0 = 0 by omega] at h18
    refine ⟨σ, ?_, h, am_pi.rf hF⟩
    simp only [s112_0, s112_1, s112_4, s112_7, s112_9, s112_10, s112_11, s112_14, s112_15, s112_18, s112_21, s112_22, s112_25, s112_28, am_pu_s, am_pu_n, va_rf_s, va_rf_n, Option.bind_some, true_or, or_true, eq_self, if_true, if_false, ite_self, ite_true, ite_false, ↓reduceIte, reduceCtorEq, Nat.reduceEqDiff, Nat.reduceAdd, Nat.reduceLT, Nat.reduceLeDiff, Nat.reduceMul, Nat.reduceSub, not_true_eq_false, not_false_eq_true, and_self, and_true, true_and, and_false, false_and, hF, kd0, h18]
end MU
