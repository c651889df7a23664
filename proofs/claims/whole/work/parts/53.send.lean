/-! SEND: all rows in the order of their numbers; a row is a number to the base GATES + 1 -/
def sB (S : am_St) : Nat := S 4 0 0 + 1
def sD (S : am_St) (r b : Nat) : Nat := r / sB S ^ (3 - b) % sB S
def sPf (S : am_St) : Nat → Nat → Option (Nat × Nat × Nat)
  | 0, _ => some (0, 0, 0)
  | b + 1, p => match sPf S b (p / sB S) with
    | none => none
    | some q => if p % sB S = 0 then some q else if q.1 / 2 ^ (p % sB S - 1) % 2 = 1 ∨ sCh S b (p % sB S - 1) = 0 then none else some (q.1 + 2 ^ (p % sB S - 1), q.2.1 + 1, q.2.2 + (sCh S b (p % sB S - 1) - 1))
def sBt (a : Nat × Nat × Nat) (s c r : Nat) : Nat × Nat × Nat := if a.1 < s + 1 ∨ (a.1 = s + 1 ∧ c < a.2.1) then (s + 1, c, r) else a
def sEv (S : am_St) (r : Nat) (a : Nat × Nat × Nat) : Nat × Nat × Nat := match sPf S 4 r with
  | none => a
  | some q => sBt a q.2.1 q.2.2 r
theorem sB_pos (S : am_St) : 0 < sB S := Nat.succ_pos _
theorem dv_g {B p g : Nat} (hB : 0 < B) (hg : g < B) : (p * B + g) / B = p ∧ (p * B + g) % B = g := by
  constructor
  · rw [Nat.add_comm, Nat.add_mul_div_right _ _ hB, Nat.div_eq_of_lt hg, Nat.zero_add]
  · rw [Nat.add_comm, Nat.add_mul_mod_self_right, Nat.mod_eq_of_lt hg]
theorem sPf_0 {S : am_St} {b p : Nat} {q : Nat × Nat × Nat} (h : sPf S b p = some q) : sPf S (b + 1) (p * sB S) = some q := by
  rw [sPf, Nat.mul_div_cancel _ (sB_pos S), h, Nat.mul_mod_left]
  rfl
theorem sPf_n {S : am_St} {b p g : Nat} {q : Nat × Nat × Nat} (h : sPf S b p = some q) (hg : g < S 4 0 0) (hx : q.1 / 2 ^ g % 2 = 1 ∨ sCh S b g = 0) : sPf S (b + 1) (p * sB S + (g + 1)) = none := by
  have hg' : g + 1 < sB S := by unfold sB; omega
  rw [sPf, (dv_g (sB_pos S) hg').1, (dv_g (sB_pos S) hg').2, h]
  dsimp only
  rw [if_neg (by omega), Nat.add_sub_cancel, if_pos hx]
theorem sPf_y {S : am_St} {b p g : Nat} {q : Nat × Nat × Nat} (h : sPf S b p = some q) (hg : g < S 4 0 0) (hx : ¬ (q.1 / 2 ^ g % 2 = 1 ∨ sCh S b g = 0)) : sPf S (b + 1) (p * sB S + (g + 1)) = some (q.1 + 2 ^ g, q.2.1 + 1, q.2.2 + (sCh S b g - 1)) := by
  have hg' : g + 1 < sB S := by unfold sB; omega
  rw [sPf, (dv_g (sB_pos S) hg').1, (dv_g (sB_pos S) hg').2, h]
  dsimp only
  rw [if_neg (by omega), Nat.add_sub_cancel, if_neg hx]
theorem sPf_none {S : am_St} : ∀ m b q, sPf S b (q / sB S ^ m) = none → sPf S (b + m) q = none
  | 0, b, q, h => by rwa [Nat.pow_zero, Nat.div_one] at h
  | m + 1, b, q, h => by
    have h1 := sPf_none m b (q / sB S) (by rw [Nat.div_div_eq_div_mul, ← Nat.pow_succ']; exact h)
    show sPf S (b + m + 1) q = none
    rw [sPf, h1]
theorem fd_id {α : Type} {f : Nat → α → α} : ∀ n i a, (∀ j, j < n → ∀ x, f (i + j) x = x) → am_fd f i n a = a
  | 0, _, _, _ => rfl
  | n + 1, i, a, h => by
    show am_fd f (i + 1) n (f i a) = a
    have h0 := h 0 (by omega) a
    rw [Nat.add_zero] at h0
    rw [h0]
    exact fd_id n (i + 1) a fun j hj x => by
      have h1 := h (j + 1) (by omega) x
      rw [show i + 1 + j = i + (j + 1) by omega]
      exact h1
theorem fd_add {α : Type} (f : Nat → α → α) : ∀ n1 n2 i a, am_fd f i (n1 + n2) a = am_fd f (i + n1) n2 (am_fd f i n1 a)
  | 0, n2, i, a => by rw [Nat.zero_add]; rfl
  | n1 + 1, n2, i, a => by
    rw [show n1 + 1 + n2 = (n1 + n2) + 1 by omega]
    show am_fd f (i + 1) (n1 + n2) (f i a) = am_fd f (i + (n1 + 1)) n2 (am_fd f (i + 1) n1 (f i a))
    rw [fd_add f n1 n2 (i + 1) (f i a), show i + 1 + n1 = i + (n1 + 1) by omega]
theorem sEv_blk {S : am_St} {b m p : Nat} (h : sPf S b p = none) (hm : b + m = 4) (a : Nat × Nat × Nat) : am_fd (sEv S) (p * sB S ^ m) (sB S ^ m) a = a := by
  refine fd_id _ _ _ fun j hj x => ?_
  have h1 := sPf_none (S := S) m b (p * sB S ^ m + j) (by rw [(dv_g (Nat.pow_pos (sB_pos S)) hj).1]; exact h)
  rw [hm] at h1
  unfold sEv
  rw [h1]
theorem sCh_le {S : am_St} {N b g : Nat} (hO : sOK N S) (hb : b < 4) : sCh S b g ≤ 1261 := by
  have := sPy_le (g := g) hO hb
  unfold sCh
  split <;> omega
theorem sPf_le {S : am_St} {N : Nat} (hO : sOK N S) : ∀ b p q, b ≤ 4 → sPf S b p = some q → q.1 < 16 ∧ q.2.1 ≤ b ∧ q.2.2 ≤ 1300 * b
  | 0, p, q, _, h => by
    rw [sPf] at h
    cases h
    exact ⟨by decide, by decide, by decide⟩
  | b + 1, p, q, hb, h => by
    rw [sPf] at h
    cases h1 : sPf S b (p / sB S) with
    | none => rw [h1] at h; cases h
    | some q' =>
      rw [h1] at h
      dsimp only at h
      obtain ⟨i1, i2, i3⟩ := sPf_le hO b _ q' (by omega) h1
      have hG := sO_G hO
      have hm : p % sB S < sB S := Nat.mod_lt _ (sB_pos S)
      have hbb : sB S = S 4 0 0 + 1 := rfl
      split at h
      · cases h
        exact ⟨i1, by omega, by omega⟩
      · split at h
        · cases h
        · rename_i _ hx
          cases h
          have hc := sCh_le (g := p % sB S - 1) hO (show b < 4 by omega)
          have hd : ∀ u, u < 16 → ∀ g, g < 4 → ¬ u / 2 ^ g % 2 = 1 → u + 2 ^ g < 16 := by decide +kernel
          refine ⟨hd _ i1 _ (by omega) (fun q => hx (Or.inl q)), ?_, ?_⟩ <;> dsimp only <;> omega
theorem wM_lt {a s : Nat} (ha : a < 100000) (hs : s < 100000) : (wM a < nI s) = (a < s + 1) := by
  unfold wM
  by_cases h : a = 0
  · rw [if_pos h]
    apply propext
    rw [Int32.lt_iff_toInt_lt, nI_toInt (by omega), show (-1 : Int32).toInt = -1 by decide]
    omega
  · rw [if_neg h, nI_LT (by omega) (by omega)]
    apply propext
    omega
theorem wM_eq {a s : Nat} (ha : a < 100000) (hs : s < 100000) : (nI s = wM a) = (a = s + 1) := by
  unfold wM
  by_cases h : a = 0
  · rw [if_pos h, nI_m1 (by omega)]
    apply propext
    constructor
    · exact False.elim
    · omega
  · rw [if_neg h, nI_EQ (by omega) (by omega)]
    apply propext
    omega
theorem wM_m1 {a : Nat} (ha : a < 100000) : (wM a = -1) = (a = 0) := by
  unfold wM
  by_cases h : a = 0
  · rw [if_pos h]; simp [h]
  · rw [if_neg h, nI_m1 (by omega)]; simp [h]
theorem am_pr.wC {P : Nat → Nat → Bool} {σ σ1 : am_M} {a b i j n : Nat} (h1 : am_pr P σ σ1) (h : ∀ k, P b k = false) : am_pr P σ (am_wC σ1 a b i j n) := ⟨h1.1, fun o k q => by
  rw [am_I_wC, if_neg (fun e => by rw [e.1, h] at q; cases q)]
  exact h1.2.1 o k q, h1.2.2⟩
section SE
variable {X : am_X} {d N : Nat} {σ σ0 : am_M} {S : am_St} {a : Nat × Nat × Nat}
/-- the class' plan, under way -/
def pRp (S : am_St) (σ0 σ : am_M) (a : Nat × Nat × Nat) : Prop := am_pr nsB σ0 σ ∧ am_I σ 57 3 = nI (S 4 0 0) ∧ (∀ b g, b < 4 → g < S 4 0 0 → am_I σ (59 + b) g = wM (sCh S b g)) ∧ (am_I σ 57 4 = wM a.1 ∧ am_I σ 57 5 = nI a.2.1 ∧ (0 < a.1 → ∀ j, j < 4 → am_I σ 64 j = wM (sD S a.2.2 j))) ∧ a.1 ≤ 5 ∧ a.2.1 ≤ 10000
theorem nI_c0 : (nI 0).toNatClampNeg = 0 := by decide +kernel
theorem nI_c4 : (nI 4).toNatClampNeg = 4 := by decide +kernel
theorem m30 {s c r : Nat} (h : pRp S σ0 σ a) (ht : ∀ j, j < 4 → am_I σ 63 j = wM (sD S r j)) (hs : s ≤ 4) (hc : c ≤ 10000) : ∃ σ', am_v X (d + 1) 30 [.ref (57 : Nat), .int (nI s), .int (nI c)] σ = some (none, σ') ∧ pRp S σ0 σ' (sBt a s c r) ∧ ∀ j, am_I σ' 63 j = am_I σ 63 j := by
  obtain ⟨hp, h3, hc4, ⟨h4, h5, h6⟩, b1, b2⟩ := h
  have hF := hp.1
  have q1 : (wM a.1 < nI s) = (a.1 < s + 1) := wM_lt (by omega) (by omega)
  have q2 : (nI s = wM a.1) = (a.1 = s + 1) := wM_eq (by omega) (by omega)
  have q3 : (nI a.2.1 ≤ nI c) = (a.2.1 ≤ c) := nI_LE (by omega) (by omega)
  rw [s30]
  unfold sBt
  by_cases c1 : a.1 < s + 1 ∨ (a.1 = s + 1 ∧ c < a.2.1)
  · rw [if_pos c1]
    have hF2 : am_F (am_wI (am_wI σ 57 4 (nI s)) 57 5 (nI c)) := hF
    have e45 := s30_45 (X := X) (d := d) (L := [some (.ref (57 : Nat)), some (.int (nI s)), some (.int (nI c))]) (a := 63) (b := 64) (i := nI 0) (j := nI 0) (n := nI 4) (σ := am_wI (am_wI σ 57 4 (nI s)) 57 5 (nI c)) ⟨kd63 hF2, kd64 hF2, Or.inl rfl, by decide +kernel, by decide +kernel, by decide +kernel, by rw [ln63 hF2, nI_c0, nI_c4]; decide, by rw [ln64 hF2, nI_c0, nI_c4]; decide⟩
    rw [nI_c0, nI_c4] at e45
    refine ⟨am_wC (am_wI (am_wI σ 57 4 (nI s)) 57 5 (nI c)) 63 64 0 0 4, ?_, ⟨((hp.w (by rfl)).w (by rfl)).wC (fun k => by rfl), ?_, ?_, ⟨?_, ?_, ?_⟩, ?_, ?_⟩, ?_⟩
    · rcases c1 with c1 | ⟨c1, c2⟩
      · simp only [s30_0, s30_1, s30_2, s30_5, s30_8, s30_9, s30_10, s30_13, s30_16, s30_17, s30_18, s30_21, s30_24, s30_25, s30_26, s30_29, s30_30, s30_31, s30_34, s30_35, s30_38, s30_39, s30_40, s30_43, s30_44, s30_48, e45, am_pu_s, am_pu_n, va_rf_s, va_rf_n, Option.bind_some, true_or, or_true, eq_self, if_true, if_false, ite_self, ite_true, ite_false, ↓reduceIte, reduceCtorEq, Nat.reduceEqDiff, Nat.reduceAdd, Nat.reduceLT, Nat.reduceLeDiff, Nat.reduceMul, Nat.reduceSub, not_true_eq_false, not_false_eq_true, and_self, and_true, true_and, and_false, false_and, am_I_wI, am_I_wJ, am_J_wI, am_J_wJ, am_R_wI, am_R_wJ, am_kd_wI, am_kd_wJ, am_ln_wI, am_ln_wJ, am_ix_wI, am_ix_wJ, am_F_wI, am_F_wJ, am_I_wC, am_J_wC, am_R_wC, am_kd_wC, am_ln_wC, am_ix_wC, am_F_wC, hF, kd57, rr57_1, rr57_2, h4, h5, q1, c1]
      · have c3 : ¬ a.1 < s + 1 := by omega
        have c4 : ¬ a.2.1 ≤ c := by omega
        have c5 : ¬ wM a.1 < nI s := by rw [q1]; exact c3
        have c6 : (nI s = wM a.1) = True := by rw [q2]; exact eq_true c1
        simp only [s30_0, s30_1, s30_2, s30_5, s30_8, s30_9, s30_10, s30_13, s30_16, s30_17, s30_18, s30_21, s30_24, s30_25, s30_26, s30_29, s30_30, s30_31, s30_34, s30_35, s30_38, s30_39, s30_40, s30_43, s30_44, s30_48, e45, am_pu_s, am_pu_n, va_rf_s, va_rf_n, Option.bind_some, true_or, or_true, eq_self, if_true, if_false, ite_self, ite_true, ite_false, ↓reduceIte, reduceCtorEq, Nat.reduceEqDiff, Nat.reduceAdd, Nat.reduceLT, Nat.reduceLeDiff, Nat.reduceMul, Nat.reduceSub, not_true_eq_false, not_false_eq_true, and_self, and_true, true_and, and_false, false_and, am_I_wI, am_I_wJ, am_J_wI, am_J_wJ, am_R_wI, am_R_wJ, am_kd_wI, am_kd_wJ, am_ln_wI, am_ln_wJ, am_ix_wI, am_ix_wJ, am_F_wI, am_F_wJ, am_I_wC, am_J_wC, am_R_wC, am_kd_wC, am_ln_wC, am_ix_wC, am_F_wC, hF, kd57, rr57_1, rr57_2, h4, h5, c5, c6, q3, c4]
    · rw [am_I_wC, if_neg (by omega), am_I_wI, if_neg (by omega), am_I_wI, if_neg (by omega), h3]
    · intro b g hb hg
      rw [am_I_wC, if_neg (by omega), am_I_wI, if_neg (by omega), am_I_wI, if_neg (by omega), hc4 b g hb hg]
    · rw [am_I_wC, if_neg (by omega), am_I_wI, if_neg (by omega), am_I_wI, if_pos ⟨rfl, rfl⟩]
      exact (if_neg (by omega)).symm
    · rw [am_I_wC, if_neg (by omega), am_I_wI, if_pos ⟨rfl, rfl⟩]
    · intro _ j hj
      rw [am_I_wC, if_pos ⟨rfl, by omega, by omega⟩, Nat.zero_add, Nat.sub_zero, am_I_wI, if_neg (by omega), am_I_wI, if_neg (by omega), ht j hj]
    · show s + 1 ≤ 5
      omega
    · exact hc
    · intro j
      rw [am_I_wC, if_neg (by omega), am_I_wI, if_neg (by omega), am_I_wI, if_neg (by omega)]
  · rw [if_neg c1]
    refine ⟨σ, ?_, ⟨hp, h3, hc4, ⟨h4, h5, h6⟩, b1, b2⟩, fun _ => rfl⟩
    have c2 : ¬ a.1 < s + 1 := fun q => c1 (Or.inl q)
    by_cases c3 : a.1 = s + 1
    · have c4 : a.2.1 ≤ c := Nat.le_of_not_lt fun q => c1 (Or.inr ⟨c3, q⟩)
      have c5 : ¬ wM a.1 < nI s := by rw [q1]; exact c2
      have c6 : (nI s = wM a.1) = True := by rw [q2]; exact eq_true c3
      simp only [s30_0, s30_1, s30_2, s30_5, s30_8, s30_9, s30_10, s30_13, s30_16, s30_17, s30_18, s30_21, s30_24, s30_25, s30_26, s30_29, s30_30, s30_31, s30_34, s30_35, s30_38, s30_39, s30_40, s30_43, s30_44, s30_48, am_pu_s, am_pu_n, va_rf_s, va_rf_n, Option.bind_some, true_or, or_true, eq_self, if_true, if_false, ite_self, ite_true, ite_false, ↓reduceIte, reduceCtorEq, Nat.reduceEqDiff, Nat.reduceAdd, Nat.reduceLT, Nat.reduceLeDiff, Nat.reduceMul, Nat.reduceSub, not_true_eq_false, not_false_eq_true, and_self, and_true, true_and, and_false, false_and, am_I_wI, am_I_wJ, am_J_wI, am_J_wJ, am_R_wI, am_R_wJ, am_kd_wI, am_kd_wJ, am_ln_wI, am_ln_wJ, am_ix_wI, am_ix_wJ, am_F_wI, am_F_wJ, am_I_wC, am_J_wC, am_R_wC, am_kd_wC, am_ln_wC, am_ix_wC, am_F_wC, hF, kd57, h4, h5, c5, c6, q3, c4]
    · simp only [s30_0, s30_1, s30_2, s30_5, s30_8, s30_9, s30_10, s30_13, s30_16, s30_17, s30_18, s30_21, s30_24, s30_25, s30_26, s30_29, s30_30, s30_31, s30_34, s30_35, s30_38, s30_39, s30_40, s30_43, s30_44, s30_48, am_pu_s, am_pu_n, va_rf_s, va_rf_n, Option.bind_some, true_or, or_true, eq_self, if_true, if_false, ite_self, ite_true, ite_false, ↓reduceIte, reduceCtorEq, Nat.reduceEqDiff, Nat.reduceAdd, Nat.reduceLT, Nat.reduceLeDiff, Nat.reduceMul, Nat.reduceSub, not_true_eq_false, not_false_eq_true, and_self, and_true, true_and, and_false, false_and, am_I_wI, am_I_wJ, am_J_wI, am_J_wJ, am_R_wI, am_R_wJ, am_kd_wI, am_kd_wJ, am_ln_wI, am_ln_wJ, am_ix_wI, am_ix_wJ, am_F_wI, am_F_wJ, am_I_wC, am_J_wC, am_R_wC, am_kd_wC, am_ln_wC, am_ix_wC, am_F_wC, hF, kd57, h4, h5, q1, q2, c2, c3]
theorem rCh {b : Nat} (h : am_F σ) (hb : b < 4) : am_R σ 58 b = some (59 + b) := by
  have : b = 0 ∨ b = 1 ∨ b = 2 ∨ b = 3 := by omega
  rcases this with rfl | rfl | rfl | rfl
  · exact rr58_0 h
  · exact rr58_1 h
  · exact rr58_2 h
  · exact rr58_3 h
theorem ixCh {b g : Nat} (h : am_F σ) (hb : b < 4) (hg : g < 4) : am_ix σ 20 (59 + b) (nI g) = true := by
  have : b = 0 ∨ b = 1 ∨ b = 2 ∨ b = 3 := by omega
  rcases this with rfl | rfl | rfl | rfl
  · exact ix59 h hg
  · exact ix60 h hg
  · exact ix61 h hg
  · exact ix62 h hg
theorem b_shr : ∀ u, u < 16 → ∀ g, g < 4 → nI u >>> (nI g &&& 31) &&& nI 1 = nI (u / 2 ^ g % 2) := by decide +kernel
theorem b_or : ∀ u, u < 16 → ∀ g, g < 4 → ¬ u / 2 ^ g % 2 = 1 → nI u ||| nI 1 <<< (nI g &&& 31) = nI (u + 2 ^ g) := by decide +kernel
theorem dg_s {B p g b j : Nat} (hB : 0 < B) (hg : g < B) (hj : j < b) : (p * B + g) / B ^ (b + 1 - 1 - j) % B = p / B ^ (b - 1 - j) % B := by
  rw [show b + 1 - 1 - j = (b - 1 - j) + 1 by omega, Nat.pow_succ', ← Nat.div_div_eq_div_mul, (dv_g hB hg).1]
theorem pRp_w63 {b : Nat} {v : Int32} (h : pRp S σ0 σ a) (hb : b < 4) : pRp S σ0 (am_wI σ 63 b v) a := by
  obtain ⟨hp, h3, hc4, ⟨h4, h5, h6⟩, b1, b2⟩ := h
  refine ⟨hp.w (by rfl), ?_, ?_, ⟨?_, ?_, ?_⟩, b1, b2⟩
  · rw [am_I_wI, if_neg (by omega), h3]
  · intro b g hb hg
    rw [am_I_wI, if_neg (by omega), hc4 b g hb hg]
  · rw [am_I_wI, if_neg (by omega), h4]
  · rw [am_I_wI, if_neg (by omega), h5]
  · intro h0 j hj
    rw [am_I_wI, if_neg (by omega), h6 h0 j hj]
theorem m29 (hO : sOK N S) : ∀ m b p u s c a σ1, b + m = 4 → sPf S b p = some (u, s, c) → pRp S σ0 σ1 a → (∀ j, j < b → am_I σ1 63 j = wM (p / sB S ^ (b - 1 - j) % sB S)) → ∃ σ', am_v X (d + m + 2) 29 [.ref (57 : Nat), .int (nI b), .int (nI u), .int (nI s), .int (nI c)] σ1 = some (none, σ') ∧ pRp S σ0 σ' (am_fd (sEv S) (p * sB S ^ m) (sB S ^ m) a) ∧ ∀ j, j < b → am_I σ' 63 j = am_I σ1 63 j := by
  intro m
  induction m with
  | zero =>
    intro b p u s c a σ1 hb hq h ht
    have hb : b = 4 := by omega
    subst hb
    obtain ⟨i1, i2, i3⟩ := sPf_le hO 4 p _ (by omega) hq
    dsimp only at i1 i2 i3
    obtain ⟨σ', r1, r2, r3⟩ := m30 (X := X) (d := d) (s := s) (c := c) (r := p) h (fun j hj => by rw [ht j hj]; rfl) i2 (by omega)
    refine ⟨σ', ?_, ?_, fun j _ => r3 j⟩
    · rw [s29]
      have c1 : ¬ nI 4 < nI 0 := by decide +kernel
      have c2 : ¬ nI 4 < nI 4 := by decide +kernel
      simp only [s29_0, s29_1, s29_2, s29_3, s29_4, s29_5, s29_7, s29_8, s29_10, s29_11, s29_13, s29_15, am_pu_s, am_pu_n, va_rf_s, va_rf_n, Option.bind_some, true_or, or_true, eq_self, if_true, if_false, ite_self, ite_true, ite_false, ↓reduceIte, reduceCtorEq, Nat.reduceEqDiff, Nat.reduceAdd, Nat.reduceLT, Nat.reduceLeDiff, Nat.reduceMul, Nat.reduceSub, not_true_eq_false, not_false_eq_true, and_self, and_true, true_and, and_false, false_and, h.1.1, kd57, c1, c2, r1]
    · rw [Nat.pow_zero, Nat.mul_one]
      have e : am_fd (sEv S) p 1 a = sBt a s c p := by
        show sEv S p a = _
        unfold sEv
        rw [hq]
      rw [e]
      exact r2
  | succ m ih =>
    intro b p u s c a σ1 hb hq h ht
    have hb4 : b < 4 := by omega
    have hG := sO_G hO
    obtain ⟨i1, i2, i3⟩ := sPf_le hO b p _ (by omega) hq
    dsimp only at i1 i2 i3
    have hBp := sB_pos S
    have hBB : sB S = S 4 0 0 + 1 := rfl
    have ex : ∀ k, (p * sB S + k) * sB S ^ m = p * sB S ^ (m + 1) + k * sB S ^ m := fun k => by
      rw [Nat.add_mul, Nat.mul_assoc, ← Nat.pow_succ']
    have loop : ∀ n g σ1, g + n = S 4 0 0 → pRp S σ0 σ1 (am_fd (sEv S) (p * sB S ^ (m + 1)) ((g + 1) * sB S ^ m) a) → (∀ j, j < b → am_I σ1 63 j = wM (p / sB S ^ (b - 1 - j) % sB S)) → ∃ σ', am_w X (d + m + 2) 29 38 [some (.ref (57 : Nat)), some (.int (nI b)), some (.int (nI u)), some (.int (nI s)), some (.int (nI c)), some (.int (nI g))] [] σ1 = some (none, σ') ∧ pRp S σ0 σ' (am_fd (sEv S) (p * sB S ^ (m + 1)) (sB S ^ (m + 1)) a) ∧ ∀ j, j < b → am_I σ' 63 j = am_I σ1 63 j := by
      intro n
      induction n with
      | zero =>
        intro g σ1 hg h1 ht1
        have hg : g = S 4 0 0 := by omega
        subst hg
        refine ⟨σ1, ?_, ?_, fun _ _ => rfl⟩
        · rw [s29_38]
          simp only [s29_40, s29_43, s29_44, , am_pu_s, am_pu_n, va_rf_s, va_rf_n, Option.bind_some, true_or, or_true, eq_self, if_true, if_false, ite_self, ite_true, ite_false, ↓reduceIte, reduceCtorEq, Nat.reduceEqDiff, Nat.reduceAdd, Nat.reduceLT, Nat.reduceLeDiff, Nat.reduceMul, Nat.reduceSub, not_true_eq_false, not_false_eq_true, and_self, and_true, true_and, and_false, false_and, h1.1.1, kd57, h1.2.1, Int32.le_refl]
        · rw [← hBB, ← Nat.pow_succ'] at h1
          exact h1
      | succ n ihn =>
        intro g σ1 hg h1 ht1
        have hg4 : g < 4 := by omega
        have hF1 := h1.1.1
        have c0 : ¬ nI (S 4 0 0) ≤ nI g := nI_ge (by omega) (by omega)
        have hch := h1.2.2.1 b g hb4 (by omega)
        have hcl := sCh_le (g := g) hO hb4
        have q1 : (wM (sCh S b g) = -1) = (sCh S b g = 0) := wM_m1 (by omega)
        have q2 := b_shr u i1 g hg4
        have q3 : (nI (u / 2 ^ g % 2) = nI 0) = (u / 2 ^ g % 2 = 0) := nI_EQ (by omega) (by decide)
        by_cases cx : u / 2 ^ g % 2 = 1 ∨ sCh S b g = 0
        · have hn := sPf_n hq (g := g) (by omega) cx
          have hblk := sEv_blk (m := m) hn (by omega) (am_fd (sEv S) (p * sB S ^ (m + 1)) ((g + 1) * sB S ^ m) a)
          rw [ex, ← fd_add, ← Nat.succ_mul] at hblk
          rw [← hblk] at h1
          obtain ⟨σ', r1, r2, r3⟩ := ihn (g + 1) σ1 (by omega) h1 ht1
          refine ⟨σ', ?_, r2, r3⟩
          rw [s29_38]
          by_cases cy : sCh S b g = 0
          · simp only [s29_40, s29_43, s29_44, s29_47, s29_49, s29_50, s29_52, s29_53, s29_54, s29_57, s29_58, s29_60, s29_61, s29_62, s29_63, s29_66, s29_67, s29_68, s29_69, s29_71, s29_72, s29_73, s29_74, s29_77, s29_79, s29_80, s29_83, s29_85, s29_86, s29_88, s29_89, s29_90, s29_92, s29_95, s29_98, s29_99, s29_101, s29_103, s29_106, am_pu_s, am_pu_n, va_rf_s, va_rf_n, Option.bind_some, true_or, or_true, eq_self, if_true, if_false, ite_self, ite_true, ite_false, ↓reduceIte, reduceCtorEq, Nat.reduceEqDiff, Nat.reduceAdd, Nat.reduceLT, Nat.reduceLeDiff, Nat.reduceMul, Nat.reduceSub, not_true_eq_false, not_false_eq_true, and_self, and_true, true_and, and_false, false_and, hF1, kd57, h1.2.1, c0, rr57_0, ix58 hF1 hb4, nI_cl (show b < 2147483648 by omega), rCh hF1 hb4, ixCh hF1 hb4 hg4, nI_cl (show g < 2147483648 by omega), hch, q1, cy, nI_add]
            exact r1
          · have cz : ¬ u / 2 ^ g % 2 = 0 := by
              rcases cx with cx | cx
              · omega
              · exact absurd cx cy
            simp only [s29_40, s29_43, s29_44, s29_47, s29_49, s29_50, s29_52, s29_53, s29_54, s29_57, s29_58, s29_60, s29_61, s29_62, s29_63, s29_66, s29_67, s29_68, s29_69, s29_71, s29_72, s29_73, s29_74, s29_77, s29_79, s29_80, s29_83, s29_85, s29_86, s29_88, s29_89, s29_90, s29_92, s29_95, s29_98, s29_99, s29_101, s29_103, s29_106, am_pu_s, am_pu_n, va_rf_s, va_rf_n, Option.bind_some, true_or, or_true, eq_self, if_true, if_false, ite_self, ite_true, ite_false, ↓reduceIte, reduceCtorEq, Nat.reduceEqDiff, Nat.reduceAdd, Nat.reduceLT, Nat.reduceLeDiff, Nat.reduceMul, Nat.reduceSub, not_true_eq_false, not_false_eq_true, and_self, and_true, true_and, and_false, false_and, hF1, kd57, h1.2.1, c0, rr57_0, ix58 hF1 hb4, nI_cl (show b < 2147483648 by omega), rCh hF1 hb4, ixCh hF1 hb4 hg4, nI_cl (show g < 2147483648 by omega), hch, q1, cy, q2, q3, cz, nI_add]
            exact r1
        · have hy := sPf_y hq (g := g) (by omega) cx
          have cy : ¬ sCh S b g = 0 := fun q => cx (Or.inr q)
          have cz : u / 2 ^ g % 2 = 0 := by
            have : ¬ u / 2 ^ g % 2 = 1 := fun q => cx (Or.inl q)
            omega
          have hor := b_or u i1 g hg4 (by omega)
          have h2 : pRp S σ0 (am_wI σ1 63 b (nI g)) _ := pRp_w63 (v := nI g) h1 hb4
          obtain ⟨σ2, e2, p2, t2⟩ := ih (b + 1) _ _ _ _ _ _ (by omega) hy h2 (fun j hj => by
            by_cases hjb : j = b
            · subst hjb
              rw [am_I_wI, if_pos ⟨rfl, rfl⟩, show j + 1 - 1 - j = 0 by omega, Nat.pow_zero, Nat.div_one, (dv_g hBp (show g + 1 < sB S by omega)).2]
              exact (if_neg (by omega)).symm
            · rw [am_I_wI, if_neg (by omega), ht1 j (by omega), dg_s hBp (show g + 1 < sB S by omega) (by omega)])
          rw [ex, ← fd_add, ← Nat.succ_mul] at p2
          have t3 : ∀ j, j < b → am_I σ2 63 j = am_I σ1 63 j := fun j hj => by
            rw [t2 j (by omega), am_I_wI, if_neg (by omega)]
          obtain ⟨σ', r1, r2, r3⟩ := ihn (g + 1) σ2 (by omega) p2 (fun j hj => by rw [t3 j hj]; exact ht1 j hj)
          refine ⟨σ', ?_, r2, fun j hj => by rw [r3 j hj, t3 j hj]⟩
          have hcv : wM (sCh S b g) = nI (sCh S b g - 1) := if_neg cy
          have q4 : (nI (sCh S b g - 1) = -1) = False := nI_m1 (by omega)
          rw [hcv] at hch
          have hch' : am_I (am_wI σ1 63 b (nI g)) (59 + b) g = nI (sCh S b g - 1) := by rw [am_I_wI, if_neg (by omega)]; exact hch
          rw [s29_38]
          simp only [s29_40, s29_43, s29_44, s29_47, s29_49, s29_50, s29_52, s29_53, s29_54, s29_57, s29_58, s29_60, s29_61, s29_62, s29_63, s29_66, s29_67, s29_68, s29_69, s29_71, s29_72, s29_73, s29_74, s29_77, s29_79, s29_80, s29_83, s29_85, s29_86, s29_88, s29_89, s29_90, s29_92, s29_95, s29_98, s29_99, s29_101, s29_103, s29_106, am_pu_s, am_pu_n, va_rf_s, va_rf_n, Option.bind_some, true_or, or_true, eq_self, if_true, if_false, ite_self, ite_true, ite_false, ↓reduceIte, reduceCtorEq, Nat.reduceEqDiff, Nat.reduceAdd, Nat.reduceLT, Nat.reduceLeDiff, Nat.reduceMul, Nat.reduceSub, not_true_eq_false, not_false_eq_true, and_self, and_true, true_and, and_false, false_and, hF1, h2.1.1, kd57, h1.2.1, c0, rr57_0, rr57_1, ix58 hF1 hb4, ix58 h2.1.1 hb4, ix63 hF1 hb4, nI_cl (show b < 2147483648 by omega), rCh hF1 hb4, rCh h2.1.1 hb4, ixCh hF1 hb4 hg4, ixCh h2.1.1 hb4 hg4, nI_cl (show g < 2147483648 by omega), hch, hch', q4, q2, q3, cz, nI_add, hor, e2]
          exact r1
    have h0 : pRp S σ0 (am_wI σ1 63 b (-1)) a := pRp_w63 (v := -1) h hb4
    obtain ⟨σ2, e2, p2, t2⟩ := ih (b + 1) _ _ _ _ _ _ (by omega) (sPf_0 hq) h0 (fun j hj => by
      by_cases hjb : j = b
      · subst hjb
        rw [am_I_wI, if_pos ⟨rfl, rfl⟩, show j + 1 - 1 - j = 0 by omega, Nat.pow_zero, Nat.div_one, Nat.mul_mod_left]
        rfl
      · have e := dg_s (p := p) (b := b) (j := j) hBp (show 0 < sB S from hBp) (by omega)
        rw [Nat.add_zero] at e
        rw [am_I_wI, if_neg (by omega), ht j (by omega), e])
    have t3 : ∀ j, j < b → am_I σ2 63 j = am_I σ1 63 j := fun j hj => by
      rw [t2 j (by omega), am_I_wI, if_neg (by omega)]
    have p3 : pRp S σ0 σ2 (am_fd (sEv S) (p * sB S ^ (m + 1)) ((0 + 1) * sB S ^ m) a) := by
      have e := ex 0
      rw [Nat.add_zero, Nat.zero_mul, Nat.add_zero] at e
      rw [← e, Nat.zero_add, Nat.one_mul]
      exact p2
    obtain ⟨σ', r1, r2, r3⟩ := loop (S 4 0 0) 0 σ2 (by omega) p3 (fun j hj => by rw [t3 j hj]; exact ht j hj)
    refine ⟨σ', ?_, r2, fun j hj => by rw [r3 j hj, t3 j hj]⟩
    have c1 : ¬ nI b < nI 0 := nI_pos (by omega)
    have c2 : nI b < nI 4 := nI_lt (by omega) (by decide)
    rw [show d + (m + 1) + 2 = d + m + 2 + 1 by omega, s29]
    simp only [s29_0, s29_1, s29_2, s29_3, s29_4, s29_5, s29_7, s29_8, s29_10, s29_11, s29_13, s29_15, s29_18, s29_19, s29_20, s29_21, s29_22, s29_23, s29_25, s29_26, s29_27, s29_28, s29_29, s29_30, s29_33, s29_35, am_pu_s, am_pu_n, va_rf_s, va_rf_n, Option.bind_some, true_or, or_true, eq_self, if_true, if_false, ite_self, ite_true, ite_false, ↓reduceIte, reduceCtorEq, Nat.reduceEqDiff, Nat.reduceAdd, Nat.reduceLT, Nat.reduceLeDiff, Nat.reduceMul, Nat.reduceSub, not_true_eq_false, not_false_eq_true, and_self, and_true, true_and, and_false, false_and, h.1.1, h0.1.1, kd57, rr57_1, ix63 h.1.1 hb4, c1, c2, nI_cl (show b < 2147483648 by omega), nI_add, e2]
    exact r1
end SE
