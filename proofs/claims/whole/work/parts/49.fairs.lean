/-! fairs -/
def yFr (S : am_St) (a : Nat) : Nat := sW (S 5 (sDr (sNx a) (S 4 0 0)) 0) (S 0 (sDr a 4)) (sDr (sNx (sNx a)) 7) (S 1 (sDr a 4) 0) - S 3 (sDr a 4) (sDr (sNx a) (S 4 0 0))
def tFr (S : am_St) (a : Nat) : Nat := S 6 (sDr (sNx a) (S 4 0 0)) 0
def sFr (S : am_St) (s : Nat) : Nat → Nat × Nat × Nat
  | 0 => (s, 0, 0)
  | k + 1 => (sNx (sNx (sNx (sFr S s k).1)), (if tFr S (sFr S s k).1 ≤ yFr S (sFr S s k).1 then (sFr S s k).2.1 + 1 else (sFr S s k).2.1), (if tFr S (sFr S s k).1 ≤ yFr S (sFr S s k).1 then (sFr S s k).2.2 + (yFr S (sFr S s k).1 - tFr S (sFr S s k).1) else (sFr S s k).2.2))
theorem sFr_lt (S : am_St) {s : Nat} (hs : s < 2 ^ 31) : ∀ k, (sFr S s k).1 < 2 ^ 31
  | 0 => hs
  | k + 1 => sNx_lt _
section FA
variable {X : am_X} {d N n s : Nat} {σ : am_M} {S : am_St}
theorem m2 (h : cRep S σ) (hO : sOK N S) (hn : n ≤ 60) (hs : s < 2 ^ 31) (hG : 0 < S 4 0 0) : ∃ σ', am_v X (d + 6) 2 [.ref (65 : Nat), .ref (8 : Nat), .ref (54 : Nat), .int (nI n), .int (nI s)] σ = some (none, σ') ∧ am_pi nsB σ σ' ∧ (∀ o k, ¬ (o = 65 ∧ k = 0) → am_J σ' o k = am_J σ o k) ∧ am_J σ' 65 0 = lN (sFr S s n).1 ∧ am_I σ' 65 1 = nI (sFr S s n).2.1 ∧ am_I σ' 65 2 = nI (sFr S s n).2.2 := by
  have hG4 := sO_G hO
  have loop : ∀ m k σ1 l6 l7 l8, k + m = n → am_pi nsB σ σ1 → (∀ o k, ¬ (o = 65 ∧ k = 0) → am_J σ1 o k = am_J σ o k) → am_J σ1 65 0 = lN (sFr S s k).1 → am_I σ1 65 1 = nI (sFr S s k).2.1 → am_I σ1 65 2 = nI (sFr S s k).2.2 → ∃ σ', am_w X (d + 5) 2 20 [some (.ref (65 : Nat)), some (.ref (8 : Nat)), some (.ref (54 : Nat)), some (.int (nI n)), some (.int (nI s)), some (.int (nI k)), l6, l7, l8] [] σ1 = some (none, σ') ∧ am_pi nsB σ σ' ∧ (∀ o k, ¬ (o = 65 ∧ k = 0) → am_J σ' o k = am_J σ o k) ∧ am_J σ' 65 0 = lN (sFr S s n).1 ∧ am_I σ' 65 1 = nI (sFr S s n).2.1 ∧ am_I σ' 65 2 = nI (sFr S s n).2.2 := by
    intro m
    induction m with
    | zero =>
      intro k σ1 l6 l7 l8 hk hp1 g0 g1 g2 g3
      have hk : k = n := by omega
      subst hk
      refine ⟨σ1, ?_, hp1, g0, g1, g2, g3⟩
      rw [s2_20]
      simp only [s2_22, s2_23, s2_112, am_pu_s, am_pu_n, va_rf_s, va_rf_n, Option.bind_some, true_or, or_true, eq_self, if_true, if_false, ite_self, ite_true, ite_false, ↓reduceIte, reduceCtorEq, Nat.reduceEqDiff, Nat.reduceAdd, Nat.reduceLT, Nat.reduceLeDiff, Nat.reduceMul, Nat.reduceSub, not_true_eq_false, not_false_eq_true, and_self, and_true, true_and, and_false, false_and, Int32.le_refl]
    | succ m ih =>
      intro k σ1 l6 l7 l8 hk hp1 g0 g1 g2 g3
      have h1 := h.piB hp1
      have hlt := sFr_lt S hs k
      have hI := ih (k + 1)
      rw [sFr] at hI
      dsimp only at hI
      unfold yFr tFr at hI
      generalize (sFr S s k).1 = a at g1 hlt hI
      generalize (sFr S s k).2.1 = p at g2 hI
      generalize (sFr S s k).2.2 = c at g3 hI
      have q0 : ¬ nI n ≤ nI k := nI_ge (by omega) (by omega)
      have hb : sDr a 4 < 4 := Nat.mod_lt _ (by decide)
      have hg : sDr (sNx a) (S 4 0 0) < S 4 0 0 := Nat.mod_lt _ hG
      have hg4 : sDr (sNx a) (S 4 0 0) < 4 := by omega
      have hw : sDr (sNx (sNx a)) 7 < 7 := Nat.mod_lt _ (by decide)
      have e1 := m3 (X := X) (d := d + 4) h1.1 hlt (show 4 < 2 ^ 31 by decide) (by decide) g1
      have hp2 : am_pi nsB σ (am_wJ σ1 65 0 (lN (sNx a))) := hp1.wJ
      have j2 : am_J (am_wJ σ1 65 0 (lN (sNx a))) 65 0 = lN (sNx a) := by rw [am_J_wJ, if_pos ⟨rfl, rfl⟩]
      have k2 : ∀ o k, ¬ (o = 65 ∧ k = 0) → am_J (am_wJ σ1 65 0 (lN (sNx a))) o k = am_J σ o k := fun o k q => by rw [am_J_wJ, if_neg q]; exact g0 o k q
      have i2 : ∀ k, am_I (am_wJ σ1 65 0 (lN (sNx a))) 65 k = am_I σ1 65 k := fun k => by rw [am_I_wJ]
      generalize am_wJ σ1 65 0 (lN (sNx a)) = σ2 at e1 hp2 j2 k2 i2
      have h2 := h.piB hp2
      have e2 := m3 (X := X) (d := d + 4) h2.1 (sNx_lt a) (show S 4 0 0 < 2 ^ 31 by omega) hG j2
      have hp3 : am_pi nsB σ (am_wJ σ2 65 0 (lN (sNx (sNx a)))) := hp2.wJ
      have j3 : am_J (am_wJ σ2 65 0 (lN (sNx (sNx a)))) 65 0 = lN (sNx (sNx a)) := by rw [am_J_wJ, if_pos ⟨rfl, rfl⟩]
      have k3 : ∀ o k, ¬ (o = 65 ∧ k = 0) → am_J (am_wJ σ2 65 0 (lN (sNx (sNx a)))) o k = am_J σ o k := fun o k q => by rw [am_J_wJ, if_neg q]; exact k2 o k q
      have i3 : ∀ k, am_I (am_wJ σ2 65 0 (lN (sNx (sNx a)))) 65 k = am_I σ1 65 k := fun k => by rw [am_I_wJ]; exact i2 k
      generalize am_wJ σ2 65 0 (lN (sNx (sNx a))) = σ3 at e2 hp3 j3 k3 i3
      have h3 := h.piB hp3
      have e3 := m3 (X := X) (d := d + 4) h3.1 (sNx_lt (sNx a)) (show 7 < 2 ^ 31 by decide) (by decide) j3
      have hp4 : am_pi nsB σ (am_wJ σ3 65 0 (lN (sNx (sNx (sNx a))))) := hp3.wJ
      have j4 : am_J (am_wJ σ3 65 0 (lN (sNx (sNx (sNx a))))) 65 0 = lN (sNx (sNx (sNx a))) := by rw [am_J_wJ, if_pos ⟨rfl, rfl⟩]
      have k4 : ∀ o k, ¬ (o = 65 ∧ k = 0) → am_J (am_wJ σ3 65 0 (lN (sNx (sNx (sNx a))))) o k = am_J σ o k := fun o k q => by rw [am_J_wJ, if_neg q]; exact k3 o k q
      have i4 : ∀ k, am_I (am_wJ σ3 65 0 (lN (sNx (sNx (sNx a))))) 65 k = am_I σ1 65 k := fun k => by rw [am_I_wJ]; exact i3 k
      generalize am_wJ σ3 65 0 (lN (sNx (sNx (sNx a)))) = σ4 at e3 hp4 j4 k4 i4
      have h4 := h.piB hp4
      obtain ⟨σ5, e4, hp5⟩ := m10 (X := X) (d := d) h4.1 (w := sDr (sNx (sNx a)) 7) (isTu8 hb) (cR_T h4 hb) (sO_N hO hb) (fun j hj => sO_B hO hb hj) (isGa8 hg4) hg4 (cR_no h4 hg4) (cR_K h4 hg4) (sO_K hO hg4) (by omega) (sO_W hO hb hg4)
      have hpp : am_pi nsB σ σ5 := hp4.tr hp5.A_B.i
      have h5 := h.piB hpp
      have j5 : am_J σ5 65 0 = lN (sNx (sNx (sNx a))) := (hp5.2.2 65 0).trans j4
      have k5 : ∀ o k, ¬ (o = 65 ∧ k = 0) → am_J σ5 o k = am_J σ o k := fun o k q => (hp5.2.2 o k).trans (k4 o k q)
      have i5 : ∀ k, am_I σ5 65 k = am_I σ1 65 k := fun k => (hp5.2.1 65 k (nsA_65 k)).trans (i4 k)
      have i51 : am_I σ5 65 1 = nI p := (i5 1).trans g2
      have i52 : am_I σ5 65 2 = nI c := (i5 2).trans g3
      have y1 := sW_le (S 5 (sDr (sNx a) (S 4 0 0)) 0) (S 0 (sDr a 4)) (sDr (sNx (sNx a)) 7) (S 1 (sDr a 4) 0)
      have y2 := sO_N hO hb
      have y3 := sO_T hO hg4
      have y4 : sW (S 5 (sDr (sNx a) (S 4 0 0)) 0) (S 0 (sDr a 4)) (sDr (sNx (sNx a)) 7) (S 1 (sDr a 4) 0) - S 3 (sDr a 4) (sDr (sNx a) (S 4 0 0)) ≤ 1260 := Nat.le_trans (Nat.sub_le _ _) (by omega)
      generalize sW (S 5 (sDr (sNx a) (S 4 0 0)) 0) (S 0 (sDr a 4)) (sDr (sNx (sNx a)) 7) (S 1 (sDr a 4) 0) - S 3 (sDr a 4) (sDr (sNx a) (S 4 0 0)) = y at e4 hI y4
      have q1 : (nI y < nI (S 6 (sDr (sNx a) (S 4 0 0)) 0)) = (y < S 6 (sDr (sNx a) (S 4 0 0)) 0) := nI_LT (by omega) (by omega)
      have st : am_w X (d + 5) 2 20 [some (.ref (65 : Nat)), some (.ref (8 : Nat)), some (.ref (54 : Nat)), some (.int (nI n)), some (.int (nI s)), some (.int (nI k)), l6, l7, l8] [] σ1 = am_w X (d + 5) 2 69 [some (.ref (65 : Nat)), some (.ref (8 : Nat)), some (.ref (54 : Nat)), some (.int (nI n)), some (.int (nI s)), some (.int (nI k)), some (.ref (15 + 3 * sDr a 4)), some (.ref (27 + sDr (sNx a) (S 4 0 0))), some (.int (nI y))] [] σ5 := by
        rw [s2_20]
        simp only [s2_22, s2_23, s2_26, s2_27, s2_30, s2_31, s2_32, s2_35, s2_36, s2_36n, s2_38, s2_39, s2_42, s2_43, s2_44, s2_47, s2_50, s2_51, s2_51n, s2_53, s2_54, s2_54n, s2_56, s2_56n, s2_58, s2_59, s2_61, s2_64, s2_67, am_pu_s, am_pu_n, va_rf_s, va_rf_n, Option.bind_some, true_or, or_true, eq_self, if_true, if_false, ite_self, ite_true, ite_false, ↓reduceIte, reduceCtorEq, Nat.reduceEqDiff, Nat.reduceAdd, Nat.reduceLT, Nat.reduceLeDiff, Nat.reduceMul, Nat.reduceSub, not_true_eq_false, not_false_eq_true, and_self, and_true, true_and, and_false, false_and, q0, h1.1, h2.1, h3.1, h4.1, kd65, kd8, kd54, rr8_0, rr8_1, cR_G h2, e1, e2, e3, e4, ix9 h2.1 hb, ix10 h3.1 hg4, rTu8 h2.1 hb, rGa8 h3.1 hg4, nI_cl (show sDr a 4 < 2147483648 by omega), nI_cl (show sDr (sNx a) (S 4 0 0) < 2147483648 by omega)]
      rw [st, s2_69]
      by_cases c1 : S 6 (sDr (sNx a) (S 4 0 0)) 0 ≤ y
      · have c2 : ¬ y < S 6 (sDr (sNx a) (S 4 0 0)) 0 := by omega
        rw [if_pos c1, if_pos c1] at hI
        have hp6 : am_pi nsB σ (am_wI (am_wI σ5 65 1 (nI (p + 1))) 65 2 (nI (c + (y - S 6 (sDr (sNx a) (S 4 0 0)) 0)))) := (hpp.w (by rfl)).w (by rfl)
        obtain ⟨σ', r1, r2⟩ := hI _ (some (.ref (15 + 3 * sDr a 4))) (some (.ref (27 + sDr (sNx a) (S 4 0 0)))) (some (.int (nI y))) (by omega) hp6 (fun o k q => by rw [am_J_wI, am_J_wI]; exact k5 o k q) (by rw [am_J_wI, am_J_wI]; exact j5) (by rw [am_I_wI, if_neg (by omega), am_I_wI, if_pos ⟨rfl, rfl⟩]) (by rw [am_I_wI, if_pos ⟨rfl, rfl⟩])
        refine ⟨σ', ?_, r2⟩
        simp only [s2_71, s2_71n, s2_73, s2_76, s2_79, s2_80, s2_81, s2_84, s2_85, s2_86, s2_89, s2_90, s2_91, s2_94, s2_96, s2_96n, s2_98, s2_101, s2_102, s2_103, s2_106, s2_109, am_pu_s, am_pu_n, va_rf_s, va_rf_n, Option.bind_some, true_or, or_true, eq_self, if_true, if_false, ite_self, ite_true, ite_false, ↓reduceIte, reduceCtorEq, Nat.reduceEqDiff, Nat.reduceAdd, Nat.reduceLT, Nat.reduceLeDiff, Nat.reduceMul, Nat.reduceSub, not_true_eq_false, not_false_eq_true, and_self, and_true, true_and, and_false, false_and, am_I_wI, am_I_wJ, am_J_wI, am_J_wJ, am_R_wI, am_R_wJ, am_kd_wI, am_kd_wJ, am_ln_wI, am_ln_wJ, am_ix_wI, am_ix_wJ, am_F_wI, am_F_wJ, am_I_wC, am_J_wC, am_R_wC, am_kd_wC, am_ln_wC, am_ix_wC, am_F_wC, h5.1, kd65, kdG h5.1 (isGa8 hg4), cR_Tl h5 hg4, q1, c2, i51, i52, nI_add, pk_sub c1]
        exact r1
      · have c2 : y < S 6 (sDr (sNx a) (S 4 0 0)) 0 := by omega
        rw [if_neg c1, if_neg c1] at hI
        obtain ⟨σ', r1, r2⟩ := hI _ (some (.ref (15 + 3 * sDr a 4))) (some (.ref (27 + sDr (sNx a) (S 4 0 0)))) (some (.int (nI y))) (by omega) hpp k5 j5 i51 i52
        refine ⟨σ', ?_, r2⟩
        simp only [s2_71, s2_71n, s2_73, s2_76, s2_79, s2_80, s2_81, s2_84, s2_85, s2_86, s2_89, s2_90, s2_91, s2_94, s2_96, s2_96n, s2_98, s2_101, s2_102, s2_103, s2_106, s2_109, am_pu_s, am_pu_n, va_rf_s, va_rf_n, Option.bind_some, true_or, or_true, eq_self, if_true, if_false, ite_self, ite_true, ite_false, ↓reduceIte, reduceCtorEq, Nat.reduceEqDiff, Nat.reduceAdd, Nat.reduceLT, Nat.reduceLeDiff, Nat.reduceMul, Nat.reduceSub, not_true_eq_false, not_false_eq_true, and_self, and_true, true_and, and_false, false_and, am_I_wI, am_I_wJ, am_J_wI, am_J_wJ, am_R_wI, am_R_wJ, am_kd_wI, am_kd_wJ, am_ln_wI, am_ln_wJ, am_ix_wI, am_ix_wJ, am_F_wI, am_F_wJ, am_I_wC, am_J_wC, am_R_wC, am_kd_wC, am_ln_wC, am_ix_wC, am_F_wC, h5.1, kd65, kdG h5.1 (isGa8 hg4), cR_Tl h5 hg4, q1, c2, nI_add]
        exact r1
  have hF := h.1
  have hp0 : am_pi nsB σ (am_wI (am_wI (am_wJ σ 65 0 (lN s)) 65 1 (nI 0)) 65 2 (nI 0)) := (((am_pi.rf hF).wJ).w (by rfl)).w (by rfl)
  obtain ⟨σ', r1, r2⟩ := loop n 0 _ none none none (by omega) hp0 (fun o k q => by rw [am_J_wI, am_J_wI, am_J_wJ, if_neg q]) (by rw [am_J_wI, am_J_wI, am_J_wJ, if_pos ⟨rfl, rfl⟩, sFr]) (by rw [am_I_wI, if_neg (by omega), am_I_wI, if_pos ⟨rfl, rfl⟩, sFr]) (by rw [am_I_wI, if_pos ⟨rfl, rfl⟩, sFr])
  refine ⟨σ', ?_, r2⟩
  rw [s2]
  simp only [s2_0, s2_1, s2_3, s2_4, s2_7, s2_8, s2_9, s2_12, s2_13, s2_14, s2_17, s2_18, am_pu_s, am_pu_n, va_rf_s, va_rf_n, Option.bind_some, true_or, or_true, eq_self, if_true, if_false, ite_self, ite_true, ite_false, ↓reduceIte, reduceCtorEq, Nat.reduceEqDiff, Nat.reduceAdd, Nat.reduceLT, Nat.reduceLeDiff, Nat.reduceMul, Nat.reduceSub, not_true_eq_false, not_false_eq_true, and_self, and_true, true_and, and_false, false_and, am_I_wI, am_I_wJ, am_J_wI, am_J_wJ, am_R_wI, am_R_wJ, am_kd_wI, am_kd_wJ, am_ln_wI, am_ln_wJ, am_ix_wI, am_ix_wJ, am_F_wI, am_F_wJ, am_I_wC, am_J_wC, am_R_wC, am_kd_wC, am_ln_wC, am_ix_wC, am_F_wC, hF, kd65, lq_i2l hs]
  exact r1
end FA
