/-! who goes by which GATE: the change, and one more; 0: cannot -/
def sCh (S : am_St) (b g : Nat) : Nat := if 0 < S 1 b 0 ∧ S 6 g 0 ≤ sPy S b g then sPy S b g - S 6 g 0 + 1 else 0
section PL
variable {X : am_X} {d N b g : Nat} {σ : am_M} {S : am_St}
theorem m28 (h : cRep S σ) (hO : sOK N S) (hb : b < 4) (hg : g < 4) (h0 : 0 < S 1 b 0) : ∃ σ', am_v X (d + 6) 28 [.ref (15 + 3 * b), .ref (27 + g), .ref (54 : Nat)] σ = some (some (.int (wM (sCh S b g))), σ') ∧ am_pr nsA σ σ' := by
  have hF := h.1
  have hwd := sO_Wd hO hg
  have p1 := sPy_le (g := g) hO hb
  have t1 := sO_T hO hg
  obtain ⟨σ2, e2, hp2⟩ := m10 (X := X) (d := d) hF (w := S 7 g 0) (isTu8 hb) (cR_T h hb) (sO_N hO hb) (fun j hj => sO_B hO hb hj) (isGa8 hg) hg (cR_no h hg) (cR_K h hg) (sO_K hO hg) (by omega) (sO_W hO hb hg)
  rw [← sPy] at e2
  have h2 := h.prA hp2
  have e3 : (nI (sPy S b g) < nI (S 6 g 0)) = (sPy S b g < S 6 g 0) := nI_LT (by omega) (by omega)
  refine ⟨σ2, ?_, hp2⟩
  rw [s28]
  unfold sCh
  by_cases c : S 6 g 0 ≤ sPy S b g
  · have c' : ¬ sPy S b g < S 6 g 0 := by omega
    have q : wM (sPy S b g - S 6 g 0 + 1) = nI (sPy S b g - S 6 g 0) := if_neg (by omega)
    rw [if_pos ⟨h0, c⟩, q]
    simp only [s28_0, s28_1, s28_2, s28_3, s28_4, s28_7, s28_10, s28_11, s28_12, s28_13, s28_16, s28_19, s28_20, s28_21, s28_24, s28_25, s28_28, s28_29, am_pu_s, am_pu_n, va_rf_s, va_rf_n, Option.bind_some, true_or, or_true, eq_self, if_true, if_false, ite_self, ite_true, ite_false, ↓reduceIte, reduceCtorEq, Nat.reduceEqDiff, Nat.reduceAdd, Nat.reduceLT, Nat.reduceLeDiff, Nat.reduceMul, Nat.reduceSub, not_true_eq_false, not_false_eq_true, and_self, and_true, true_and, and_false, false_and, hF, h2.1, kd54, kdG hF (isGa8 hg), kdG h2.1 (isGa8 hg), cR_Wd h hg, cR_Tl h2 hg, e2, e3, c', pk_sub c]
  · have c' : sPy S b g < S 6 g 0 := by omega
    rw [if_neg (fun q => c q.2), show wM 0 = -1 from if_pos rfl]
    simp only [s28_0, s28_1, s28_2, s28_3, s28_4, s28_7, s28_10, s28_11, s28_12, s28_13, s28_16, s28_19, s28_20, s28_21, s28_24, s28_25, s28_28, s28_29, am_pu_s, am_pu_n, va_rf_s, va_rf_n, Option.bind_some, true_or, or_true, eq_self, if_true, if_false, ite_self, ite_true, ite_false, ↓reduceIte, reduceCtorEq, Nat.reduceEqDiff, Nat.reduceAdd, Nat.reduceLT, Nat.reduceLeDiff, Nat.reduceMul, Nat.reduceSub, not_true_eq_false, not_false_eq_true, and_self, and_true, true_and, and_false, false_and, hF, h2.1, kd54, kdG hF (isGa8 hg), kdG h2.1 (isGa8 hg), cR_Wd h hg, cR_Tl h2 hg, e2, e3, c']
end PL
