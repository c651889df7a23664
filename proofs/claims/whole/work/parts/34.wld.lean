/-! worlds: counts, tuneIn, gateAt; at how many gates a tune passes -/
def sSum (f : Nat → Nat) : Nat → Nat
  | 0 => 0
  | n + 1 => sSum f n + f n
def isWo (o : Nat) : Prop := o = 8 ∨ o = 31
section WO
variable {σ : am_M} {o b g k : Nat}
theorem kdWo (h : am_F σ) (ho : isWo o) : am_kd σ o = 9 := by
  rcases ho with rfl | rfl
  · exact kd8 h
  · exact kd31 h
theorem rW0 (h : am_F σ) (ho : isWo o) : am_R σ o 0 = some (o + 1) := by
  rcases ho with rfl | rfl
  · exact rr8_0 h
  · exact rr31_0 h
theorem rW1 (h : am_F σ) (ho : isWo o) : am_R σ o 1 = some (o + 2) := by
  rcases ho with rfl | rfl
  · exact rr8_1 h
  · exact rr31_1 h
theorem rW2 (h : am_F σ) (ho : isWo o) : am_R σ o 2 = some (o + 3) := by
  rcases ho with rfl | rfl
  · exact rr8_2 h
  · exact rr31_2 h
theorem ixWT (h : am_F σ) (ho : isWo o) (hk : k < 4) : am_ix σ 24 (o + 1) (nI k) = true := by
  rcases ho with rfl | rfl
  · exact ix9 h hk
  · exact ix32 h hk
theorem ixWG (h : am_F σ) (ho : isWo o) (hk : k < 4) : am_ix σ 23 (o + 2) (nI k) = true := by
  rcases ho with rfl | rfl
  · exact ix10 h hk
  · exact ix33 h hk
theorem rTu (h : am_F σ) (ho : isWo o) (hb : b < 4) : am_R σ (o + 1) b = some (o + 7 + 3 * b) := by
  have hb4 : b = 0 ∨ b = 1 ∨ b = 2 ∨ b = 3 := by omega
  rcases ho with rfl | rfl <;> rcases hb4 with rfl | rfl | rfl | rfl
  · exact rr9_0 h
  · exact rr9_1 h
  · exact rr9_2 h
  · exact rr9_3 h
  · exact rr32_0 h
  · exact rr32_1 h
  · exact rr32_2 h
  · exact rr32_3 h
theorem rGa (h : am_F σ) (ho : isWo o) (hb : g < 4) : am_R σ (o + 2) g = some (o + 19 + g) := by
  have hb4 : g = 0 ∨ g = 1 ∨ g = 2 ∨ g = 3 := by omega
  rcases ho with rfl | rfl <;> rcases hb4 with rfl | rfl | rfl | rfl
  · exact rr10_0 h
  · exact rr10_1 h
  · exact rr10_2 h
  · exact rr10_3 h
  · exact rr33_0 h
  · exact rr33_1 h
  · exact rr33_2 h
  · exact rr33_3 h
theorem rTu8 (h : am_F σ) (hb : b < 4) : am_R σ 9 b = some (15 + 3 * b) := rTu h (Or.inl rfl) hb
theorem rGa8 (h : am_F σ) (hb : g < 4) : am_R σ 10 g = some (27 + g) := rGa h (Or.inl rfl) hb
theorem isTuW (ho : isWo o) (hb : b < 4) : isTu (o + 7 + 3 * b) := by
  rcases ho with rfl | rfl
  · exact ⟨b, hb, Or.inl rfl⟩
  · exact ⟨b, hb, Or.inr rfl⟩
theorem isGaW (ho : isWo o) (hb : g < 4) : isGa (o + 19 + g) := by
  rcases ho with rfl | rfl
  · exact ⟨g, hb, Or.inl rfl⟩
  · exact ⟨g, hb, Or.inr rfl⟩
theorem isTu8 (hb : b < 4) : isTu (15 + 3 * b) := ⟨b, hb, Or.inl rfl⟩
theorem isGa8 (hb : g < 4) : isGa (27 + g) := ⟨g, hb, Or.inl rfl⟩
end WO
section CR
variable {S : am_St} {σ : am_M} {b g j : Nat}
theorem cR_T (h : cRep S σ) (hb : b < 4) : cTun σ (15 + 3 * b) (S 1 b 0) (S 0 b) (S 3 b) := (h.2.1.2.1 b hb).1
theorem cR_N (h : cRep S σ) (hb : b < 4) : am_I σ (15 + 3 * b) 2 = nI (S 1 b 0) := (cR_T h hb).1
theorem cR_D (h : cRep S σ) (hb : b < 4) (h0 : 0 < S 1 b 0) : am_I σ (15 + 3 * b) 3 = nI (S 2 b 0) := (h.2.1.2.1 b hb).2 h0
theorem cR_g (h : cRep S σ) (hg : g < 4) : cGat σ (27 + g) (S 5 g 0) (S 6 g 0) (S 7 g 0) (S 8 g 0) (S 9 g 0) := h.2.1.2.2.1 g hg
theorem cR_K (h : cRep S σ) (hg : g < 4) : am_I σ (27 + g) 1 = nI (S 5 g 0) := (cR_g h hg).1
theorem cR_Tl (h : cRep S σ) (hg : g < 4) : am_I σ (27 + g) 2 = nI (S 6 g 0) := (cR_g h hg).2.1
theorem cR_Wd (h : cRep S σ) (hg : g < 4) : am_I σ (27 + g) 3 = nI (S 7 g 0) := (cR_g h hg).2.2.1
theorem cR_Pa (h : cRep S σ) (hg : g < 4) : am_I σ (27 + g) 4 = nI (S 8 g 0) := (cR_g h hg).2.2.2.1
theorem cR_Ow (h : cRep S σ) (hg : g < 4) : am_I σ (27 + g) 5 = nI (S 9 g 0) := (cR_g h hg).2.2.2.2
theorem cR_no (h : cRep S σ) (hg : g < 4) : am_I σ (27 + g) 0 = nI g := h.2.2.2.2.1 g hg
theorem cR_G (h : cRep S σ) : am_I σ 8 3 = nI (S 4 0 0) := h.2.1.1
theorem cR_sn (h : cRep S σ) : am_I σ 11 3 = nI (S 10 0 0) := h.2.1.2.2.2.1
end CR
/-- a sum of a loop -/
theorem m80 {X : am_X} {d : Nat} {σ : am_M} {o c : Nat} {S : am_St} (hF : am_F σ) (ho : isWo o) (h : cWld σ o S c) (hn : ∀ b, b < 4 → S (c + 1) b 0 ≤ 60) : am_v X (d + 1) 80 [.ref o] σ = some (some (.int (nI (sSum (fun b => if 0 < S (c + 1) b 0 then 1 else 0) 4))), σ) := by
  have h1 := am_it0 (fun i s => am_w X d 80 4 [some (.ref o), some (.int (nI s)), some (.int (nI i))] [] σ) (fun b s => s + if 0 < S (c + 1) b 0 then 1 else 0) 4 (fun i s hi => by
    have h1 : ¬ nI 4 ≤ nI i := nI_ge hi (by decide)
    have h2 := (h.2.1 i hi).1.1
    have h3 := hn i hi
    have h4 : (nI (S (c + 1) i 0) ≤ nI 0) = (S (c + 1) i 0 ≤ 0) := nI_LE (by omega) (by decide)
    try dsimp only
    rw [s80_4]
    by_cases h5 : 0 < S (c + 1) i 0
    · have h6 : ¬ S (c + 1) i 0 ≤ 0 := by omega
      simp only [s80_0, s80_1, s80_2, s80_3, s80_5, s80_6, s80_9, s80_10, s80_13, s80_14, s80_15, s80_18, s80_21, s80_24, s80_27, s80_30, s80_31, am_pu_s, am_pu_n, va_rf_s, va_rf_n, Option.bind_some, true_or, or_true, eq_self, if_true, if_false, ite_self, ite_true, ite_false, ↓reduceIte, reduceCtorEq, Nat.reduceEqDiff, Nat.reduceAdd, Nat.reduceLT, Nat.reduceLeDiff, Nat.reduceMul, Nat.reduceSub, not_true_eq_false, not_false_eq_true, and_self, and_true, true_and, and_false, false_and, nI_add, h1, kdWo hF ho, rW0 hF ho, ixWT hF ho hi, nI_cl (show i < 2147483648 by omega), rTu hF ho hi, kdT hF (isTuW ho hi), h2, h4, h5, h6]
    · have h6 : S (c + 1) i 0 ≤ 0 := by omega
      simp only [s80_0, s80_1, s80_2, s80_3, s80_5, s80_6, s80_9, s80_10, s80_13, s80_14, s80_15, s80_18, s80_21, s80_24, s80_27, s80_30, s80_31, am_pu_s, am_pu_n, va_rf_s, va_rf_n, Option.bind_some, true_or, or_true, eq_self, if_true, if_false, ite_self, ite_true, ite_false, ↓reduceIte, reduceCtorEq, Nat.reduceEqDiff, Nat.reduceAdd, Nat.reduceLT, Nat.reduceLeDiff, Nat.reduceMul, Nat.reduceSub, not_true_eq_false, not_false_eq_true, and_self, and_true, true_and, and_false, false_and, nI_add, h1, kdWo hF ho, rW0 hF ho, ixWT hF ho hi, nI_cl (show i < 2147483648 by omega), rTu hF ho hi, kdT hF (isTuW ho hi), h2, h4, h5, h6, Nat.add_zero]) 0
  rw [s80]
  simp only [s80_0, s80_1, s80_2, s80_3]
  rw [h1]
  simp only [s80_0, s80_1, s80_2, s80_3, s80_4, s80_5, s80_6, s80_9, s80_10, s80_13, s80_14, s80_15, s80_18, s80_21, s80_24, s80_27, s80_30, s80_31, am_pu_s, am_pu_n, va_rf_s, va_rf_n, Option.bind_some, true_or, or_true, eq_self, if_true, if_false, ite_self, ite_true, ite_false, ↓reduceIte, reduceCtorEq, Nat.reduceEqDiff, Nat.reduceAdd, Nat.reduceLT, Nat.reduceLeDiff, Nat.reduceMul, Nat.reduceSub, not_true_eq_false, not_false_eq_true, and_self, and_true, true_and, and_false, false_and, nI_LE]
  rfl
theorem m81 {X : am_X} {d : Nat} {σ : am_M} {o c : Nat} {S : am_St} (hF : am_F σ) (ho : isWo o) (h : cWld σ o S c) : am_v X (d + 1) 81 [.ref o] σ = some (some (.int (nI (sSum (fun b => S (c + 1) b 0) 4))), σ) := by
  have h1 := am_it0 (fun i s => am_w X d 81 4 [some (.ref o), some (.int (nI s)), some (.int (nI i))] [] σ) (fun b s => s + S (c + 1) b 0) 4 (fun i s hi => by
    have h1 : ¬ nI 4 ≤ nI i := nI_ge hi (by decide)
    have h2 := (h.2.1 i hi).1.1
    try dsimp only
    rw [s81_4]
    simp only [s81_0, s81_1, s81_2, s81_3, s81_5, s81_6, s81_9, s81_10, s81_11, s81_14, s81_15, s81_16, s81_19, s81_20, s81_21, s81_24, s81_27, s81_28, am_pu_s, am_pu_n, va_rf_s, va_rf_n, Option.bind_some, true_or, or_true, eq_self, if_true, if_false, ite_self, ite_true, ite_false, ↓reduceIte, reduceCtorEq, Nat.reduceEqDiff, Nat.reduceAdd, Nat.reduceLT, Nat.reduceLeDiff, Nat.reduceMul, Nat.reduceSub, not_true_eq_false, not_false_eq_true, and_self, and_true, true_and, and_false, false_and, nI_add, h1, kdWo hF ho, rW0 hF ho, ixWT hF ho hi, nI_cl (show i < 2147483648 by omega), rTu hF ho hi, kdT hF (isTuW ho hi), h2]) 0
  rw [s81]
  simp only [s81_0, s81_1, s81_2, s81_3]
  rw [h1]
  simp only [s81_0, s81_1, s81_2, s81_3, s81_4, s81_5, s81_6, s81_9, s81_10, s81_11, s81_14, s81_15, s81_16, s81_19, s81_20, s81_21, s81_24, s81_27, s81_28, am_pu_s, am_pu_n, va_rf_s, va_rf_n, Option.bind_some, true_or, or_true, eq_self, if_true, if_false, ite_self, ite_true, ite_false, ↓reduceIte, reduceCtorEq, Nat.reduceEqDiff, Nat.reduceAdd, Nat.reduceLT, Nat.reduceLeDiff, Nat.reduceMul, Nat.reduceSub, not_true_eq_false, not_false_eq_true, and_self, and_true, true_and, and_false, false_and, nI_LE]
  rfl
theorem m54 {X : am_X} {d : Nat} {σ : am_M} {o n : Nat} {B W : Nat → Nat} (hF : am_F σ) (ho : isTu o) (h : cTun σ o n B W) : am_v X (d + 1) 54 [.ref o] σ = some (some (.int (nI (sSum W 4))), σ) := by
  have h1 := am_it0 (fun i s => am_w X d 54 4 [some (.ref o), some (.int (nI s)), some (.int (nI i))] [] σ) (fun b s => s + W b) 4 (fun i s hi => by
    have h1 : ¬ nI 4 ≤ nI i := nI_ge hi (by decide)
    try dsimp only
    rw [s54_4]
    simp only [s54_0, s54_1, s54_2, s54_3, s54_5, s54_6, s54_9, s54_10, s54_11, s54_14, s54_15, s54_16, s54_17, s54_18, s54_21, s54_24, s54_25, am_pu_s, am_pu_n, va_rf_s, va_rf_n, Option.bind_some, true_or, or_true, eq_self, if_true, if_false, ite_self, ite_true, ite_false, ↓reduceIte, reduceCtorEq, Nat.reduceEqDiff, Nat.reduceAdd, Nat.reduceLT, Nat.reduceLeDiff, Nat.reduceMul, Nat.reduceSub, not_true_eq_false, not_false_eq_true, and_self, and_true, true_and, and_false, false_and, nI_add, h1, kdT hF ho, rT1 hF ho, ixW hF ho hi, nI_cl (show i < 2147483648 by omega), h.2.2 i hi]) 0
  rw [s54]
  simp only [s54_0, s54_1, s54_2, s54_3]
  rw [h1]
  simp only [s54_0, s54_1, s54_2, s54_3, s54_4, s54_5, s54_6, s54_9, s54_10, s54_11, s54_14, s54_15, s54_16, s54_17, s54_18, s54_21, s54_24, s54_25, am_pu_s, am_pu_n, va_rf_s, va_rf_n, Option.bind_some, true_or, or_true, eq_self, if_true, if_false, ite_self, ite_true, ite_false, ↓reduceIte, reduceCtorEq, Nat.reduceEqDiff, Nat.reduceAdd, Nat.reduceLT, Nat.reduceLeDiff, Nat.reduceMul, Nat.reduceSub, not_true_eq_false, not_false_eq_true, and_self, and_true, true_and, and_false, false_and, nI_LE]
  rfl
theorem m82 {X : am_X} {d : Nat} {σ : am_M} {o c : Nat} {S : am_St} (hF : am_F σ) (ho : isWo o) (h : cWld σ o S c) : am_v X (d + 2) 82 [.ref o] σ = some (some (.int (nI (sSum (fun b => sSum (S (c + 3) b) 4) 4))), σ) := by
  have h1 := am_it0 (fun i s => am_w X (d + 1) 82 4 [some (.ref o), some (.int (nI s)), some (.int (nI i))] [] σ) (fun b s => s + sSum (S (c + 3) b) 4) 4 (fun i s hi => by
    have h1 : ¬ nI 4 ≤ nI i := nI_ge hi (by decide)
    try dsimp only
    rw [s82_4]
    simp only [s82_0, s82_1, s82_2, s82_3, s82_5, s82_6, s82_9, s82_10, s82_11, s82_14, s82_15, s82_16, s82_19, s82_20, s82_21, s82_24, s82_27, s82_28, am_pu_s, am_pu_n, va_rf_s, va_rf_n, Option.bind_some, true_or, or_true, eq_self, if_true, if_false, ite_self, ite_true, ite_false, ↓reduceIte, reduceCtorEq, Nat.reduceEqDiff, Nat.reduceAdd, Nat.reduceLT, Nat.reduceLeDiff, Nat.reduceMul, Nat.reduceSub, not_true_eq_false, not_false_eq_true, and_self, and_true, true_and, and_false, false_and, nI_add, h1, kdWo hF ho, rW0 hF ho, ixWT hF ho hi, nI_cl (show i < 2147483648 by omega), rTu hF ho hi, kdT hF (isTuW ho hi), m54 hF (isTuW ho hi) (h.2.1 i hi).1]) 0
  rw [s82]
  simp only [s82_0, s82_1, s82_2, s82_3]
  rw [h1]
  simp only [s82_0, s82_1, s82_2, s82_3, s82_4, s82_5, s82_6, s82_9, s82_10, s82_11, s82_14, s82_15, s82_16, s82_19, s82_20, s82_21, s82_24, s82_27, s82_28, am_pu_s, am_pu_n, va_rf_s, va_rf_n, Option.bind_some, true_or, or_true, eq_self, if_true, if_false, ite_self, ite_true, ite_false, ↓reduceIte, reduceCtorEq, Nat.reduceEqDiff, Nat.reduceAdd, Nat.reduceLT, Nat.reduceLeDiff, Nat.reduceMul, Nat.reduceSub, not_true_eq_false, not_false_eq_true, and_self, and_true, true_and, and_false, false_and, nI_LE]
  rfl
theorem am_fd_sum (f : Nat → Nat) : ∀ n, am_fd (fun b s => s + f b) 0 n 0 = sSum f n
  | 0 => rfl
  | n + 1 => by rw [am_fd_s, am_fd_sum f n, Nat.zero_add]; rfl
theorem m83 {X : am_X} {d : Nat} {σ : am_M} {o c : Nat} {S : am_St} (hF : am_F σ) (ho : isWo o) (h : cWld σ o S c) (hG : S (c + 4) 0 0 ≤ 4) : am_v X (d + 1) 83 [.ref o] σ = some (some (.int (nI (sSum (fun g => S (c + 8) g 0) (S (c + 4) 0 0)))), σ) := by
  have h1 := am_it0 (fun i s => am_w X d 83 4 [some (.ref o), some (.int (nI s)), some (.int (nI i))] [] σ) (fun b s => s + S (c + 8) b 0) (S (c + 4) 0 0) (fun i s hi => by
    have h1 : ¬ nI (S (c + 4) 0 0) ≤ nI i := nI_ge hi (by omega)
    have hi4 : i < 4 := by omega
    try dsimp only
    rw [s83_4]
    simp only [s83_0, s83_1, s83_2, s83_3, s83_5, s83_6, s83_9, s83_12, s83_13, s83_14, s83_17, s83_18, s83_19, s83_22, s83_23, s83_24, s83_27, s83_30, s83_31, am_pu_s, am_pu_n, va_rf_s, va_rf_n, Option.bind_some, true_or, or_true, eq_self, if_true, if_false, ite_self, ite_true, ite_false, ↓reduceIte, reduceCtorEq, Nat.reduceEqDiff, Nat.reduceAdd, Nat.reduceLT, Nat.reduceLeDiff, Nat.reduceMul, Nat.reduceSub, not_true_eq_false, not_false_eq_true, and_self, and_true, true_and, and_false, false_and, nI_add, h1, h.1, kdWo hF ho, rW1 hF ho, ixWG hF ho hi4, nI_cl (show i < 2147483648 by omega), rGa hF ho hi4, kdG hF (isGaW ho hi4), (h.2.2.1 i hi4).2.2.2.1]) 0
  rw [s83]
  simp only [s83_0, s83_1, s83_2, s83_3]
  rw [h1]
  simp only [s83_0, s83_1, s83_2, s83_3, s83_4, s83_5, s83_6, s83_9, s83_12, s83_13, s83_14, s83_17, s83_18, s83_19, s83_22, s83_23, s83_24, s83_27, s83_30, s83_31, am_pu_s, am_pu_n, va_rf_s, va_rf_n, Option.bind_some, true_or, or_true, eq_self, if_true, if_false, ite_self, ite_true, ite_false, ↓reduceIte, reduceCtorEq, Nat.reduceEqDiff, Nat.reduceAdd, Nat.reduceLT, Nat.reduceLeDiff, Nat.reduceMul, Nat.reduceSub, not_true_eq_false, not_false_eq_true, and_self, and_true, true_and, and_false, false_and, kdWo hF ho, h.1, Int32.le_refl, am_fd_sum]
theorem m84 {X : am_X} {d : Nat} {σ : am_M} {o c : Nat} {S : am_St} (hF : am_F σ) (ho : isWo o) (h : cWld σ o S c) (hG : S (c + 4) 0 0 ≤ 4) : am_v X (d + 1) 84 [.ref o] σ = some (some (.int (nI (sSum (fun g => S (c + 9) g 0) (S (c + 4) 0 0)))), σ) := by
  have h1 := am_it0 (fun i s => am_w X d 84 4 [some (.ref o), some (.int (nI s)), some (.int (nI i))] [] σ) (fun b s => s + S (c + 9) b 0) (S (c + 4) 0 0) (fun i s hi => by
    have h1 : ¬ nI (S (c + 4) 0 0) ≤ nI i := nI_ge hi (by omega)
    have hi4 : i < 4 := by omega
    try dsimp only
    rw [s84_4]
    simp only [s84_0, s84_1, s84_2, s84_3, s84_5, s84_6, s84_9, s84_12, s84_13, s84_14, s84_17, s84_18, s84_19, s84_22, s84_23, s84_24, s84_27, s84_30, s84_31, am_pu_s, am_pu_n, va_rf_s, va_rf_n, Option.bind_some, true_or, or_true, eq_self, if_true, if_false, ite_self, ite_true, ite_false, ↓reduceIte, reduceCtorEq, Nat.reduceEqDiff, Nat.reduceAdd, Nat.reduceLT, Nat.reduceLeDiff, Nat.reduceMul, Nat.reduceSub, not_true_eq_false, not_false_eq_true, and_self, and_true, true_and, and_false, false_and, nI_add, h1, h.1, kdWo hF ho, rW1 hF ho, ixWG hF ho hi4, nI_cl (show i < 2147483648 by omega), rGa hF ho hi4, kdG hF (isGaW ho hi4), (h.2.2.1 i hi4).2.2.2.2]) 0
  rw [s84]
  simp only [s84_0, s84_1, s84_2, s84_3]
  rw [h1]
  simp only [s84_0, s84_1, s84_2, s84_3, s84_4, s84_5, s84_6, s84_9, s84_12, s84_13, s84_14, s84_17, s84_18, s84_19, s84_22, s84_23, s84_24, s84_27, s84_30, s84_31, am_pu_s, am_pu_n, va_rf_s, va_rf_n, Option.bind_some, true_or, or_true, eq_self, if_true, if_false, ite_self, ite_true, ite_false, ↓reduceIte, reduceCtorEq, Nat.reduceEqDiff, Nat.reduceAdd, Nat.reduceLT, Nat.reduceLeDiff, Nat.reduceMul, Nat.reduceSub, not_true_eq_false, not_false_eq_true, and_self, and_true, true_and, and_false, false_and, kdWo hF ho, h.1, Int32.le_refl, am_fd_sum]
/-! the model's counts -/
theorem m205 {X : am_X} {d N : Nat} {σ : am_M} {S : am_St} (h : mRep S σ) (hO : sOK N S) : am_v X (d + 1) 205 [.ref (66 : Nat)] σ = some (some (.int (nI (sSum (fun b => if 0 < S 1 b 0 then 1 else 0) 4))), σ) := by
  have hF := h.1
  have h1 := am_it0 (fun i s => am_w X d 205 4 [some (.ref (66 : Nat)), some (.int (nI s)), some (.int (nI i))] [] σ) (fun b s => s + if 0 < S 1 b 0 then 1 else 0) 4 (fun i s hi => by
    have h1 : ¬ nI 4 ≤ nI i := nI_ge hi (by decide)
    have h3 := sO_N hO hi
    have h4 : (nI (S 1 i 0) ≤ nI 0) = (S 1 i 0 ≤ 0) := nI_LE (by omega) (by decide)
    try dsimp only
    rw [s205_4]
    by_cases h5 : 0 < S 1 i 0
    · have h6 : ¬ S 1 i 0 ≤ 0 := by omega
      simp only [s205_0, s205_1, s205_2, s205_3, s205_5, s205_6, s205_9, s205_10, s205_11, s205_14, s205_15, s205_16, s205_19, s205_20, s205_23, s205_24, s205_25, s205_26, s205_29, s205_32, s205_33, am_pu_s, am_pu_n, va_rf_s, va_rf_n, Option.bind_some, true_or, or_true, eq_self, if_true, if_false, ite_self, ite_true, ite_false, ↓reduceIte, reduceCtorEq, Nat.reduceEqDiff, Nat.reduceAdd, Nat.reduceLT, Nat.reduceLeDiff, Nat.reduceMul, Nat.reduceSub, not_true_eq_false, not_false_eq_true, and_self, and_true, true_and, and_false, false_and, nI_add, h1, hF, kd66, rr66_1, ix68 hF hi, nI_cl (show i < 2147483648 by omega), mR_N h hi, h4, h5, h6]
    · have h6 : S 1 i 0 ≤ 0 := by omega
      simp only [s205_0, s205_1, s205_2, s205_3, s205_5, s205_6, s205_9, s205_10, s205_11, s205_14, s205_15, s205_16, s205_19, s205_20, s205_23, s205_24, s205_25, s205_26, s205_29, s205_32, s205_33, am_pu_s, am_pu_n, va_rf_s, va_rf_n, Option.bind_some, true_or, or_true, eq_self, if_true, if_false, ite_self, ite_true, ite_false, ↓reduceIte, reduceCtorEq, Nat.reduceEqDiff, Nat.reduceAdd, Nat.reduceLT, Nat.reduceLeDiff, Nat.reduceMul, Nat.reduceSub, not_true_eq_false, not_false_eq_true, and_self, and_true, true_and, and_false, false_and, nI_add, h1, hF, kd66, rr66_1, ix68 hF hi, nI_cl (show i < 2147483648 by omega), mR_N h hi, h4, h5, h6]) 0
  rw [s205]
  simp only [s205_0, s205_1, s205_2, s205_3]
  rw [h1]
  simp only [s205_0, s205_1, s205_2, s205_3, s205_4, s205_5, s205_6, s205_9, s205_10, s205_11, s205_14, s205_15, s205_16, s205_19, s205_20, s205_23, s205_24, s205_25, s205_26, s205_29, s205_32, s205_33, am_pu_s, am_pu_n, va_rf_s, va_rf_n, Option.bind_some, true_or, or_true, eq_self, if_true, if_false, ite_self, ite_true, ite_false, ↓reduceIte, reduceCtorEq, Nat.reduceEqDiff, Nat.reduceAdd, Nat.reduceLT, Nat.reduceLeDiff, Nat.reduceMul, Nat.reduceSub, not_true_eq_false, not_false_eq_true, and_self, and_true, true_and, and_false, false_and, nI_LE]
  rfl
theorem m206 {X : am_X} {d : Nat} {σ : am_M} {S : am_St} (h : mRep S σ) : am_v X (d + 1) 206 [.ref (66 : Nat)] σ = some (some (.int (nI (sSum (fun b => S 1 b 0) 4))), σ) := by
  have hF := h.1
  have h1 := am_it0 (fun i s => am_w X d 206 4 [some (.ref (66 : Nat)), some (.int (nI s)), some (.int (nI i))] [] σ) (fun b s => s + S 1 b 0) 4 (fun i s hi => by
    have h1 : ¬ nI 4 ≤ nI i := nI_ge hi (by decide)
    try dsimp only
    rw [s206_4]
    simp only [s206_0, s206_1, s206_2, s206_3, s206_5, s206_6, s206_9, s206_10, s206_11, s206_14, s206_15, s206_16, s206_17, s206_18, s206_21, s206_24, s206_25, am_pu_s, am_pu_n, va_rf_s, va_rf_n, Option.bind_some, true_or, or_true, eq_self, if_true, if_false, ite_self, ite_true, ite_false, ↓reduceIte, reduceCtorEq, Nat.reduceEqDiff, Nat.reduceAdd, Nat.reduceLT, Nat.reduceLeDiff, Nat.reduceMul, Nat.reduceSub, not_true_eq_false, not_false_eq_true, and_self, and_true, true_and, and_false, false_and, nI_add, h1, hF, kd66, rr66_1, ix68 hF hi, nI_cl (show i < 2147483648 by omega), mR_N h hi]) 0
  rw [s206]
  simp only [s206_0, s206_1, s206_2, s206_3]
  rw [h1]
  simp only [s206_0, s206_1, s206_2, s206_3, s206_4, s206_5, s206_6, s206_9, s206_10, s206_11, s206_14, s206_15, s206_16, s206_17, s206_18, s206_21, s206_24, s206_25, am_pu_s, am_pu_n, va_rf_s, va_rf_n, Option.bind_some, true_or, or_true, eq_self, if_true, if_false, ite_self, ite_true, ite_false, ↓reduceIte, reduceCtorEq, Nat.reduceEqDiff, Nat.reduceAdd, Nat.reduceLT, Nat.reduceLeDiff, Nat.reduceMul, Nat.reduceSub, not_true_eq_false, not_false_eq_true, and_self, and_true, true_and, and_false, false_and, nI_LE]
  rfl
theorem m202 {X : am_X} {d N : Nat} {σ : am_M} {S : am_St} (h : mRep S σ) (hO : sOK N S) : am_v X (d + 1) 202 [.ref (66 : Nat)] σ = some (some (.int (nI (sSum (fun g => S 8 g 0) (S 4 0 0)))), σ) := by
  have hF := h.1
  have hG := sO_G hO
  have h1 := am_it0 (fun i s => am_w X d 202 4 [some (.ref (66 : Nat)), some (.int (nI s)), some (.int (nI i))] [] σ) (fun b s => s + S 8 b 0) (S 4 0 0) (fun i s hi => by
    have h1 : ¬ nI (S 4 0 0) ≤ nI i := nI_ge hi (by omega)
    have hi4 : i < 4 := by omega
    try dsimp only
    rw [s202_4]
    simp only [s202_0, s202_1, s202_2, s202_3, s202_5, s202_6, s202_9, s202_12, s202_13, s202_14, s202_17, s202_18, s202_19, s202_20, s202_21, s202_24, s202_27, s202_28, am_pu_s, am_pu_n, va_rf_s, va_rf_n, Option.bind_some, true_or, or_true, eq_self, if_true, if_false, ite_self, ite_true, ite_false, ↓reduceIte, reduceCtorEq, Nat.reduceEqDiff, Nat.reduceAdd, Nat.reduceLT, Nat.reduceLeDiff, Nat.reduceMul, Nat.reduceSub, not_true_eq_false, not_false_eq_true, and_self, and_true, true_and, and_false, false_and, nI_add, h1, hF, kd66, rr66_9, mR_G h, ix73 hF hi4, nI_cl (show i < 2147483648 by omega), mR_Pa h hi4]) 0
  rw [s202]
  simp only [s202_0, s202_1, s202_2, s202_3]
  rw [h1]
  simp only [s202_0, s202_1, s202_2, s202_3, s202_4, s202_5, s202_6, s202_9, s202_12, s202_13, s202_14, s202_17, s202_18, s202_19, s202_20, s202_21, s202_24, s202_27, s202_28, am_pu_s, am_pu_n, va_rf_s, va_rf_n, Option.bind_some, true_or, or_true, eq_self, if_true, if_false, ite_self, ite_true, ite_false, ↓reduceIte, reduceCtorEq, Nat.reduceEqDiff, Nat.reduceAdd, Nat.reduceLT, Nat.reduceLeDiff, Nat.reduceMul, Nat.reduceSub, not_true_eq_false, not_false_eq_true, and_self, and_true, true_and, and_false, false_and, hF, kd66, mR_G h, Int32.le_refl, am_fd_sum]
theorem m207 {X : am_X} {d N : Nat} {σ : am_M} {S : am_St} (h : mRep S σ) (hO : sOK N S) : am_v X (d + 1) 207 [.ref (66 : Nat)] σ = some (some (.int (nI (sSum (fun g => S 9 g 0) (S 4 0 0)))), σ) := by
  have hF := h.1
  have hG := sO_G hO
  have h1 := am_it0 (fun i s => am_w X d 207 4 [some (.ref (66 : Nat)), some (.int (nI s)), some (.int (nI i))] [] σ) (fun b s => s + S 9 b 0) (S 4 0 0) (fun i s hi => by
    have h1 : ¬ nI (S 4 0 0) ≤ nI i := nI_ge hi (by omega)
    have hi4 : i < 4 := by omega
    try dsimp only
    rw [s207_4]
    simp only [s207_0, s207_1, s207_2, s207_3, s207_5, s207_6, s207_9, s207_12, s207_13, s207_14, s207_17, s207_18, s207_19, s207_20, s207_21, s207_24, s207_27, s207_28, am_pu_s, am_pu_n, va_rf_s, va_rf_n, Option.bind_some, true_or, or_true, eq_self, if_true, if_false, ite_self, ite_true, ite_false, ↓reduceIte, reduceCtorEq, Nat.reduceEqDiff, Nat.reduceAdd, Nat.reduceLT, Nat.reduceLeDiff, Nat.reduceMul, Nat.reduceSub, not_true_eq_false, not_false_eq_true, and_self, and_true, true_and, and_false, false_and, nI_add, h1, hF, kd66, rr66_10, mR_G h, ix74 hF hi4, nI_cl (show i < 2147483648 by omega), mR_Ow h hi4]) 0
  rw [s207]
  simp only [s207_0, s207_1, s207_2, s207_3]
  rw [h1]
  simp only [s207_0, s207_1, s207_2, s207_3, s207_4, s207_5, s207_6, s207_9, s207_12, s207_13, s207_14, s207_17, s207_18, s207_19, s207_20, s207_21, s207_24, s207_27, s207_28, am_pu_s, am_pu_n, va_rf_s, va_rf_n, Option.bind_some, true_or, or_true, eq_self, if_true, if_false, ite_self, ite_true, ite_false, ↓reduceIte, reduceCtorEq, Nat.reduceEqDiff, Nat.reduceAdd, Nat.reduceLT, Nat.reduceLeDiff, Nat.reduceMul, Nat.reduceSub, not_true_eq_false, not_false_eq_true, and_self, and_true, true_and, and_false, false_and, hF, kd66, mR_G h, Int32.le_refl, am_fd_sum]
theorem m208 {X : am_X} {d : Nat} {σ : am_M} {S : am_St} (h : mRep S σ) : am_v X (d + 1) 208 [.ref (66 : Nat)] σ = some (some (.int (nI (sSum (fun b => sSum (S 3 b) 4) 4))), σ) := by
  have hF := h.1
  have h1 := am_it0 (fun i s => am_w X d 208 4 [some (.ref (66 : Nat)), some (.int (nI s)), some (.int (nI i))] [] σ) (fun k s => s + S 3 (k / 4) (k % 4)) 16 (fun i s hi => by
    have h1 : ¬ nI 16 ≤ nI i := nI_ge hi (by decide)
    have h2 := mR_W h (show i / 4 < 4 by omega) (show i % 4 < 4 by omega)
    rw [show 4 * (i / 4) + i % 4 = i by omega] at h2
    try dsimp only
    rw [s208_4]
    simp only [s208_0, s208_1, s208_2, s208_3, s208_5, s208_7, s208_10, s208_11, s208_12, s208_15, s208_16, s208_17, s208_18, s208_19, s208_22, s208_25, s208_26, am_pu_s, am_pu_n, va_rf_s, va_rf_n, Option.bind_some, true_or, or_true, eq_self, if_true, if_false, ite_self, ite_true, ite_false, ↓reduceIte, reduceCtorEq, Nat.reduceEqDiff, Nat.reduceAdd, Nat.reduceLT, Nat.reduceLeDiff, Nat.reduceMul, Nat.reduceSub, not_true_eq_false, not_false_eq_true, and_self, and_true, true_and, and_false, false_and, nI_add, h1, hF, kd66, rr66_11, ix75 hF hi, nI_cl (show i < 2147483648 by omega), h2]) 0
  rw [s208]
  simp only [s208_0, s208_1, s208_2, s208_3]
  rw [h1]
  simp only [s208_0, s208_1, s208_2, s208_3, s208_4, s208_5, s208_7, s208_10, s208_11, s208_12, s208_15, s208_16, s208_17, s208_18, s208_19, s208_22, s208_25, s208_26, am_pu_s, am_pu_n, va_rf_s, va_rf_n, Option.bind_some, true_or, or_true, eq_self, if_true, if_false, ite_self, ite_true, ite_false, ↓reduceIte, reduceCtorEq, Nat.reduceEqDiff, Nat.reduceAdd, Nat.reduceLT, Nat.reduceLeDiff, Nat.reduceMul, Nat.reduceSub, not_true_eq_false, not_false_eq_true, and_self, and_true, true_and, and_false, false_and, nI_LE]
  have e : am_fd (fun k s => s + S 3 (k / 4) (k % 4)) 0 16 0 = sSum (fun b => sSum (S 3 b) 4) 4 := by
    show 0 + S 3 0 0 + S 3 0 1 + S 3 0 2 + S 3 0 3 + S 3 1 0 + S 3 1 1 + S 3 1 2 + S 3 1 3 + S 3 2 0 + S 3 2 1 + S 3 2 2 + S 3 2 3 + S 3 3 0 + S 3 3 1 + S 3 3 2 + S 3 3 3 = 0 + (0 + S 3 0 0 + S 3 0 1 + S 3 0 2 + S 3 0 3) + (0 + S 3 1 0 + S 3 1 1 + S 3 1 2 + S 3 1 3) + (0 + S 3 2 0 + S 3 2 1 + S 3 2 2 + S 3 2 3) + (0 + S 3 3 0 + S 3 3 1 + S 3 3 2 + S 3 3 3)
    omega
  rw [e]
