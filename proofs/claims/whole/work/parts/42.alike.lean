/-! the longest run that two TUNES have alike -/
def aEnd (B C : Nat → Nat) (i k l : Nat) : Prop := l ≤ i ∧ l ≤ k ∧ ∀ t, t < l → B (i - 1 - t) = C (k - 1 - t)
def sEn (B C : Nat → Nat) : Nat → Nat → Nat
  | 0, _ => 0
  | _ + 1, 0 => 0
  | i + 1, k + 1 => if B i = C k then sEn B C i k + 1 else 0
theorem sEn_ok (B C : Nat → Nat) : ∀ i k, aEnd B C i k (sEn B C i k) ∧ ∀ l, aEnd B C i k l → l ≤ sEn B C i k
  | 0, k => ⟨⟨Nat.zero_le _, Nat.zero_le _, fun t ht => absurd ht (Nat.not_lt_zero _)⟩, fun l hl => hl.1⟩
  | i + 1, 0 => ⟨⟨Nat.zero_le _, Nat.zero_le _, fun t ht => absurd ht (Nat.not_lt_zero _)⟩, fun l hl => hl.2.1⟩
  | i + 1, k + 1 => by
    obtain ⟨h1, h2⟩ := sEn_ok B C i k
    unfold sEn
    by_cases h : B i = C k
    · rw [if_pos h]
      refine ⟨⟨by have := h1.1; omega, by have := h1.2.1; omega, fun t ht => ?_⟩, fun l hl => ?_⟩
      · by_cases h0 : t = 0
        · rw [h0]
          exact h
        · have := h1.2.2 (t - 1) (by omega)
          rw [show i - 1 - (t - 1) = i + 1 - 1 - t by omega, show k - 1 - (t - 1) = k + 1 - 1 - t by omega] at this
          exact this
      · by_cases h0 : l = 0
        · omega
        · have := h2 (l - 1) ⟨by have := hl.1; omega, by have := hl.2.1; omega, fun t ht => by
            have := hl.2.2 (t + 1) (by omega)
            rw [show i + 1 - 1 - (t + 1) = i - 1 - t by omega, show k + 1 - 1 - (t + 1) = k - 1 - t by omega] at this
            exact this⟩
          omega
    · rw [if_neg h]
      refine ⟨⟨Nat.zero_le _, Nat.zero_le _, fun t ht => absurd ht (Nat.not_lt_zero _)⟩, fun l hl => ?_⟩
      by_cases h0 : l = 0
      · omega
      · exact absurd (hl.2.2 0 (by omega)) h
theorem run_end {B C : Nat → Nat} {nA nC i j l : Nat} (h : aRun B C nA nC i j l) : aEnd B C (i + l) (j + l) l := ⟨by omega, by omega, fun t ht => by
  have := h.2.2 (l - 1 - t) (by omega)
  rw [show i + l - 1 - t = i + (l - 1 - t) by omega, show j + l - 1 - t = j + (l - 1 - t) by omega]
  exact this⟩
theorem end_run {B C : Nat → Nat} {nA nC i k l : Nat} (hi : i ≤ nA) (hk : k ≤ nC) (h : aEnd B C i k l) : aRun B C nA nC (i - l) (k - l) l := ⟨by have := h.1; omega, by have := h.2.1; omega, fun t ht => by
  have h1 := h.1
  have h2 := h.2.1
  have := h.2.2 (l - 1 - t) (by omega)
  rw [show i - 1 - (l - 1 - t) = i - l + t by omega, show k - 1 - (l - 1 - t) = k - l + t by omega] at this
  exact this⟩
def aAl (B C : Nat → Nat) (nA nC L t : Nat) : Prop := (L = 0 → t = 0) ∧ (0 < L → 0 < t ∧ ∃ j, aRun B C nA nC (t - 1) j L) ∧ ∀ i j l, aRun B C nA nC i j l → l ≤ L ∧ (l = L → 0 < L → t ≤ i + 1)
theorem aAl_u {B C : Nat → Nat} {nA nC L t L' t' : Nat} (h : aAl B C nA nC L t) (h' : aAl B C nA nC L' t') : L = L' ∧ t = t' := by
  obtain ⟨a1, a2, a3⟩ := h
  obtain ⟨b1, b2, b3⟩ := h'
  have e : L = L' := by
    by_cases h0 : L = 0
    · by_cases h1 : L' = 0
      · omega
      · obtain ⟨_, j, hj⟩ := b2 (by omega)
        have := (a3 _ _ _ hj).1
        omega
    · obtain ⟨_, j, hj⟩ := a2 (by omega)
      have q1 := (b3 _ _ _ hj).1
      obtain ⟨_, j', hj'⟩ := b2 (by omega)
      have q2 := (a3 _ _ _ hj').1
      omega
  subst e
  refine ⟨rfl, ?_⟩
  by_cases h0 : L = 0
  · rw [a1 h0, b1 h0]
  · obtain ⟨q1, j, hj⟩ := a2 (by omega)
    obtain ⟨q2, j', hj'⟩ := b2 (by omega)
    have q3 := (b3 _ _ _ hj).2 rfl (by omega)
    have q4 := (a3 _ _ _ hj').2 rfl (by omega)
    omega
def aC (B C : Nat → Nat) (nA nC i j L t : Nat) : Prop := (L = 0 → t = 0) ∧ (0 < L → 0 < t ∧ t - 1 + L ≤ i + 1 ∧ ∃ j, aRun B C nA nC (t - 1) j L) ∧ ∀ i' k', k' ≤ nC → (i' ≤ i ∨ (i' = i + 1 ∧ j < k')) → ∀ l, aEnd B C i' k' l → l ≤ L ∧ (l = L → 0 < L → t ≤ i' - l + 1)
theorem aC_0 (B C : Nat → Nat) (nA nC : Nat) : aC B C nA nC 0 nC 0 0 := ⟨fun _ => rfl, fun h => absurd h (by omega), fun i' k' hk h l hl => ⟨by have := hl.1; have := hl.2.1; omega, fun _ h => absurd h (by omega)⟩⟩
theorem aC_s {B C : Nat → Nat} {nA nC i u L t : Nat} (hi : i < nA) (hu : u < nC) (h : aC B C nA nC i (u + 1) L t) : (L < sEn B C (i + 1) (u + 1) → aC B C nA nC i u (sEn B C (i + 1) (u + 1)) (i + 1 - sEn B C (i + 1) (u + 1) + 1)) ∧ (¬ L < sEn B C (i + 1) (u + 1) → aC B C nA nC i u L t) := by
  obtain ⟨a1, a2, a3⟩ := h
  obtain ⟨q1, q2⟩ := sEn_ok B C (i + 1) (u + 1)
  generalize sEn B C (i + 1) (u + 1) = e at q1 q2 ⊢
  have qa := q1.1
  have qb := q1.2.1
  constructor
  · intro hL
    refine ⟨fun h0 => by omega, fun _ => ⟨by omega, by omega, u + 1 - e, ?_⟩, fun i' k' hk hp l hl => ?_⟩
    · have := end_run (nA := nA) (nC := nC) (by omega) (by omega) q1
      rw [show i + 1 - e + 1 - 1 = i + 1 - e by omega]
      exact this
    · by_cases hc : i' = i + 1 ∧ k' = u + 1
      · obtain ⟨rfl, rfl⟩ := hc
        exact ⟨q2 l hl, fun h0 _ => by omega⟩
      · have := a3 i' k' hk (by omega) l hl
        exact ⟨by omega, fun h0 _ => by omega⟩
  · intro hL
    refine ⟨a1, a2, fun i' k' hk hp l hl => ?_⟩
    by_cases hc : i' = i + 1 ∧ k' = u + 1
    · obtain ⟨rfl, rfl⟩ := hc
      have h3 := q2 l hl
      exact ⟨by omega, fun h0 h1 => by
        have := (a2 h1)
        omega⟩
    · exact a3 i' k' hk (by omega) l hl
theorem aC_r {B C : Nat → Nat} {nA nC i L t : Nat} (h : aC B C nA nC i 0 L t) : aC B C nA nC (i + 1) nC L t := by
  obtain ⟨a1, a2, a3⟩ := h
  refine ⟨a1, fun h0 => ?_, fun i' k' hk hp l hl => ?_⟩
  · obtain ⟨b1, b2, b3⟩ := a2 h0
    exact ⟨b1, by omega, b3⟩
  · by_cases hc : k' = 0
    · have := hl.2.1
      exact ⟨by omega, fun h0 h1 => by omega⟩
    · exact a3 i' k' hk (by omega) l hl
theorem aC_e {B C : Nat → Nat} {nA nC j L t : Nat} (h : aC B C nA nC nA j L t) : aAl B C nA nC L t := by
  obtain ⟨a1, a2, a3⟩ := h
  refine ⟨a1, fun h0 => ?_, fun i j l hl => ?_⟩
  · obtain ⟨b1, b2, b3⟩ := a2 h0
    exact ⟨b1, b3⟩
  · have h1 := hl.1
    have h2 := hl.2.1
    have := a3 (i + l) (j + l) h2 (Or.inl h1) l (run_end hl)
    exact ⟨this.1, fun h0 h3 => by have := this.2 h0 h3; omega⟩
def aM (B C : Nat → Nat) (nA nC i j L t : Nat) : Prop := (L = 0 → t = 0) ∧ (0 < L → 0 < t ∧ t ≤ i + 1 ∧ ∃ j, aRun B C nA nC (t - 1) j L) ∧ ∀ i' j', (i' < i ∨ (i' = i ∧ j' < j)) → ∀ l, aRun B C nA nC i' j' l → l ≤ L ∧ (l = L → 0 < L → t ≤ i' + 1)
theorem aM_0 (B C : Nat → Nat) (nA nC : Nat) : aM B C nA nC 0 0 0 0 := ⟨fun _ => rfl, fun h => absurd h (by omega), fun i' k' h l hl => absurd h (by omega)⟩
theorem aM_s {B C : Nat → Nat} {nA nC i j L t r : Nat} (hr : aRun B C nA nC i j r) (hm : ∀ l, aRun B C nA nC i j l → l ≤ r) (h : aM B C nA nC i j L t) : (L < r → aM B C nA nC i (j + 1) r (i + 1)) ∧ (¬ L < r → aM B C nA nC i (j + 1) L t) := by
  obtain ⟨a1, a2, a3⟩ := h
  constructor
  · intro hL
    refine ⟨fun h0 => by omega, fun _ => ⟨by omega, by omega, j, hr⟩, fun i' k' hp l hl => ?_⟩
    by_cases hc : i' = i ∧ k' = j
    · obtain ⟨rfl, rfl⟩ := hc
      exact ⟨hm l hl, fun h0 _ => by omega⟩
    · have := a3 i' k' (by omega) l hl
      exact ⟨by omega, fun h0 _ => by omega⟩
  · intro hL
    refine ⟨a1, a2, fun i' k' hp l hl => ?_⟩
    by_cases hc : i' = i ∧ k' = j
    · obtain ⟨rfl, rfl⟩ := hc
      have h3 := hm l hl
      exact ⟨by omega, fun h0 h1 => (a2 h1).2.1⟩
    · exact a3 i' k' (by omega) l hl
theorem aM_r {B C : Nat → Nat} {nA nC i L t : Nat} (h : aM B C nA nC i nC L t) : aM B C nA nC (i + 1) 0 L t := by
  obtain ⟨a1, a2, a3⟩ := h
  refine ⟨a1, fun h0 => ?_, fun i' k' hp l hl => ?_⟩
  · obtain ⟨b1, b2, b3⟩ := a2 h0
    exact ⟨b1, by omega, b3⟩
  · by_cases hc : i' < i ∨ (i' = i ∧ k' < nC)
    · exact a3 i' k' hc l hl
    · have h2 := hl.2.1
      exact ⟨by omega, fun h0 h1 => by omega⟩
theorem aM_e {B C : Nat → Nat} {nA nC L t : Nat} (h : aM B C nA nC nA 0 L t) : aAl B C nA nC L t := by
  obtain ⟨a1, a2, a3⟩ := h
  refine ⟨a1, fun h0 => ?_, fun i j l hl => ?_⟩
  · obtain ⟨b1, b2, b3⟩ := a2 h0
    exact ⟨b1, b3⟩
  · by_cases hc : i < nA
    · exact a3 i j (Or.inl hc) l hl
    · have h2 := hl.1
      exact ⟨by omega, fun h0 h1 => by omega⟩
section AL
variable {X : am_X} {d N a b : Nat} {σ : am_M} {S : am_St}
theorem m168 (h : mRep S σ) (hO : sOK N S) (ha : a < 4) (hb : b < 4) {w : Nat} (hw : w < 2) : ∃ L t, aAl (S 0 a) (S 0 b) (S 1 a 0) (S 1 b 0) L t ∧ am_v X (d + 3) 168 [.ref (66 : Nat), .int (nI a), .int (nI b), .int (nI w)] σ = some (some (.int (if w = 0 then nI L else wM t)), σ) := by
  have hA := sO_N hO ha
  have hB := sO_N hO hb
  have hF := h.1
  have inner : ∀ i, i < S 1 a 0 → ∀ m j L t l8, j + m = S 1 b 0 → L ≤ 60 → aM (S 0 a) (S 0 b) (S 1 a 0) (S 1 b 0) i j L t → ∃ L' t' l8', L' ≤ 60 ∧ aM (S 0 a) (S 0 b) (S 1 a 0) (S 1 b 0) i (S 1 b 0) L' t' ∧ am_w X (d + 2) 168 23 [some (.ref (66 : Nat)), some (.int (nI a)), some (.int (nI b)), some (.int (nI w)), some (.int (nI L)), some (.int (wM t)), some (.int (nI i)), some (.int (nI j)), l8] [] σ = am_w X (d + 2) 168 84 [some (.ref (66 : Nat)), some (.int (nI a)), some (.int (nI b)), some (.int (nI w)), some (.int (nI L')), some (.int (wM t')), some (.int (nI i)), some (.int (nI (S 1 b 0))), l8'] [] σ := by
    intro i hi m
    induction m with
    | zero =>
      intro j L t l8 hj hL hI
      have hj : j = S 1 b 0 := by omega
      subst hj
      refine ⟨L, t, l8, hL, hI, ?_⟩
      rw [s168_23]
      simp only [s168_25, s168_26, s168_29, s168_30, s168_31, s168_34, am_pu_s, am_pu_n, va_rf_s, va_rf_n, Option.bind_some, true_or, or_true, eq_self, if_true, if_false, ite_self, ite_true, ite_false, ↓reduceIte, reduceCtorEq, Nat.reduceEqDiff, Nat.reduceAdd, Nat.reduceLT, Nat.reduceLeDiff, Nat.reduceMul, Nat.reduceSub, not_true_eq_false, not_false_eq_true, and_self, and_true, true_and, and_false, false_and, hF, kd66, rr66_1, ix68 hF hb, nI_cl (show b < 2147483648 by omega), mR_N h hb, Int32.le_refl]
    | succ m ih =>
      intro j L t l8 hj hL hI
      have e1 : ¬ nI (S 1 b 0) ≤ nI j := nI_ge (by omega) (by omega)
      obtain ⟨r, q1, q2, q3⟩ := m167 (X := X) (d := d) h hO ha hb (i := i) (j := j) (by omega) (by omega)
      have q4 := q2.1
      obtain ⟨p1, p2⟩ := aM_s q2 q3 hI
      have e2 : (nI r ≤ nI L) = (r ≤ L) := nI_LE (by omega) (by omega)
      by_cases hc : L < r
      · obtain ⟨L', t', l8', c1, c2, c3⟩ := ih (j + 1) r (i + 1) (some (.int (nI r))) (by omega) (by omega) (p1 hc)
        refine ⟨L', t', l8', c1, c2, ?_⟩
        have e3 : ¬ r ≤ L := by omega
        have e4 : wM (i + 1) = nI i := if_neg (by omega)
        rw [e4] at c3
        rw [s168_23]
        simp only [s168_25, s168_26, s168_29, s168_30, s168_31, s168_34, s168_35, s168_36, s168_38, s168_39, s168_41, s168_44, s168_46, s168_48, s168_50, s168_53, s168_55, s168_58, s168_60, s168_62, s168_64, s168_66, s168_69, s168_71, s168_74, s168_76, s168_78, s168_81, am_pu_s, am_pu_n, va_rf_s, va_rf_n, Option.bind_some, true_or, or_true, eq_self, if_true, if_false, ite_self, ite_true, ite_false, ↓reduceIte, reduceCtorEq, Nat.reduceEqDiff, Nat.reduceAdd, Nat.reduceLT, Nat.reduceLeDiff, Nat.reduceMul, Nat.reduceSub, not_true_eq_false, not_false_eq_true, and_self, and_true, true_and, and_false, false_and, nI_add, hF, kd66, rr66_1, ix68 hF hb, nI_cl (show b < 2147483648 by omega), mR_N h hb, e1, q1, e2, e3]
        exact c3
      · obtain ⟨L', t', l8', c1, c2, c3⟩ := ih (j + 1) L t (some (.int (nI r))) (by omega) (by omega) (p2 hc)
        refine ⟨L', t', l8', c1, c2, ?_⟩
        have e3 : r ≤ L := by omega
        rw [s168_23]
        simp only [s168_25, s168_26, s168_29, s168_30, s168_31, s168_34, s168_35, s168_36, s168_38, s168_39, s168_41, s168_44, s168_46, s168_48, s168_50, s168_53, s168_55, s168_58, s168_60, s168_62, s168_64, s168_66, s168_69, s168_71, s168_74, s168_76, s168_78, s168_81, am_pu_s, am_pu_n, va_rf_s, va_rf_n, Option.bind_some, true_or, or_true, eq_self, if_true, if_false, ite_self, ite_true, ite_false, ↓reduceIte, reduceCtorEq, Nat.reduceEqDiff, Nat.reduceAdd, Nat.reduceLT, Nat.reduceLeDiff, Nat.reduceMul, Nat.reduceSub, not_true_eq_false, not_false_eq_true, and_self, and_true, true_and, and_false, false_and, nI_add, hF, kd66, rr66_1, ix68 hF hb, nI_cl (show b < 2147483648 by omega), mR_N h hb, e1, q1, e2, e3]
        exact c3
  have outer : ∀ m i L t l7 l8, i + m = S 1 a 0 → L ≤ 60 → aM (S 0 a) (S 0 b) (S 1 a 0) (S 1 b 0) i 0 L t → ∃ L' t', aAl (S 0 a) (S 0 b) (S 1 a 0) (S 1 b 0) L' t' ∧ am_w X (d + 2) 168 9 [some (.ref (66 : Nat)), some (.int (nI a)), some (.int (nI b)), some (.int (nI w)), some (.int (nI L)), some (.int (wM t)), some (.int (nI i)), l7, l8] [] σ = some (some (.int (if w = 0 then nI L' else wM t')), σ) := by
    intro m
    induction m with
    | zero =>
      intro i L t l7 l8 hi hL hI
      have hi : i = S 1 a 0 := by omega
      subst hi
      refine ⟨L, t, aM_e hI, ?_⟩
      have e1 : (nI w = nI 0) = (w = 0) := nI_EQ (by omega) (by decide)
      rw [s168_9]
      simp only [s168_11, s168_12, s168_15, s168_16, s168_17, am_pu_s, am_pu_n, va_rf_s, va_rf_n, Option.bind_some, true_or, or_true, eq_self, if_true, if_false, ite_self, ite_true, ite_false, ↓reduceIte, reduceCtorEq, Nat.reduceEqDiff, Nat.reduceAdd, Nat.reduceLT, Nat.reduceLeDiff, Nat.reduceMul, Nat.reduceSub, not_true_eq_false, not_false_eq_true, and_self, and_true, true_and, and_false, false_and, hF, kd66, rr66_1, ix68 hF ha, nI_cl (show a < 2147483648 by omega), mR_N h ha, Int32.le_refl]
      by_cases hc : w = 0 <;> simp only [s168_90, s168_91, s168_94, s168_96, s168_99, s168_101, am_pu_s, am_pu_n, va_rf_s, va_rf_n, Option.bind_some, true_or, or_true, eq_self, if_true, if_false, ite_self, ite_true, ite_false, ↓reduceIte, reduceCtorEq, Nat.reduceEqDiff, Nat.reduceAdd, Nat.reduceLT, Nat.reduceLeDiff, Nat.reduceMul, Nat.reduceSub, not_true_eq_false, not_false_eq_true, and_self, and_true, true_and, and_false, false_and, e1, hc]
    | succ m ih =>
      intro i L t l7 l8 hi hL hI
      have e1 : ¬ nI (S 1 a 0) ≤ nI i := nI_ge (by omega) (by omega)
      obtain ⟨L1, t1, l8', c1, c2, c3⟩ := inner i (by omega) (S 1 b 0) 0 L t l8 (by omega) hL hI
      obtain ⟨L2, t2, p1, p2⟩ := ih (i + 1) L1 t1 (some (.int (nI (S 1 b 0)))) l8' (by omega) c1 (aM_r c2)
      refine ⟨L2, t2, p1, ?_⟩
      rw [s168_9]
      simp only [s168_11, s168_12, s168_15, s168_16, s168_17, s168_20, s168_21, am_pu_s, am_pu_n, va_rf_s, va_rf_n, Option.bind_some, true_or, or_true, eq_self, if_true, if_false, ite_self, ite_true, ite_false, ↓reduceIte, reduceCtorEq, Nat.reduceEqDiff, Nat.reduceAdd, Nat.reduceLT, Nat.reduceLeDiff, Nat.reduceMul, Nat.reduceSub, not_true_eq_false, not_false_eq_true, and_self, and_true, true_and, and_false, false_and, hF, kd66, rr66_1, ix68 hF ha, nI_cl (show a < 2147483648 by omega), mR_N h ha, e1]
      rw [c3]
      simp only [s168_84, s168_87, am_pu_s, am_pu_n, va_rf_s, va_rf_n, Option.bind_some, true_or, or_true, eq_self, if_true, if_false, ite_self, ite_true, ite_false, ↓reduceIte, reduceCtorEq, Nat.reduceEqDiff, Nat.reduceAdd, Nat.reduceLT, Nat.reduceLeDiff, Nat.reduceMul, Nat.reduceSub, not_true_eq_false, not_false_eq_true, and_self, and_true, true_and, and_false, false_and, nI_add]
      exact p2
  obtain ⟨L, t, p1, p2⟩ := outer (S 1 a 0) 0 0 0 none none (by omega) (by omega) (aM_0 _ _ _ _)
  refine ⟨L, t, p1, ?_⟩
  have e0 : wM 0 = -1 := if_pos rfl
  rw [e0] at p2
  rw [s168]
  simp only [s168_0, s168_1, s168_3, s168_4, s168_6, s168_7, am_pu_s, am_pu_n, va_rf_s, va_rf_n, Option.bind_some, true_or, or_true, eq_self, if_true, if_false, ite_self, ite_true, ite_false, ↓reduceIte, reduceCtorEq, Nat.reduceEqDiff, Nat.reduceAdd, Nat.reduceLT, Nat.reduceLeDiff, Nat.reduceMul, Nat.reduceSub, not_true_eq_false, not_false_eq_true, and_self, and_true, true_and, and_false, false_and]
  exact p2
theorem nI_ie : ∀ i, i < 60 → ∀ e, e < i + 2 → nI i - nI e + nI 1 = nI (i + 1 - e) := by decide +kernel
theorem m18 (h : cRep S σ) (hO : sOK N S) (ha : a < 4) (hb : b < 4) : ∃ σ' L t, am_v X (d + 2) 18 [.ref (55 : Nat), .ref (15 + 3 * a), .ref (15 + 3 * b)] σ = some (none, σ') ∧ am_pr nsA σ σ' ∧ aAl (S 0 a) (S 0 b) (S 1 a 0) (S 1 b 0) L t ∧ am_I σ' 55 1 = nI L ∧ am_I σ' 55 2 = wM t := by
  have hA := sO_N hO ha
  have hB := sO_N hO hb
  have first : ∀ m k σ1, k + m = S 1 b 0 + 1 → am_pr nsA σ σ1 → am_I σ1 55 1 = nI 0 → am_I σ1 55 2 = -1 → (∀ i, i < k → am_I σ1 56 i = nI 0) → ∃ σ', am_w X (d + 1) 18 12 [some (.ref (55 : Nat)), some (.ref (15 + 3 * a)), some (.ref (15 + 3 * b)), some (.int (nI k)), none] [] σ1 = am_w X (d + 1) 18 33 [some (.ref (55 : Nat)), some (.ref (15 + 3 * a)), some (.ref (15 + 3 * b)), some (.int (nI (S 1 b 0 + 1))), none] [] σ' ∧ am_pr nsA σ σ' ∧ am_I σ' 55 1 = nI 0 ∧ am_I σ' 55 2 = -1 ∧ ∀ i, i ≤ S 1 b 0 → am_I σ' 56 i = nI 0 := by
    intro m
    induction m with
    | zero =>
      intro k σ1 hk hp1 g1 g2 hr
      have hk : k = S 1 b 0 + 1 := by omega
      subst hk
      have h1 := h.prA hp1
      have e1 : nI (S 1 b 0) < nI (S 1 b 0 + 1) := nI_lt (by omega) (by omega)
      refine ⟨σ1, ?_, hp1, g1, g2, fun i hi => hr i (by omega)⟩
      rw [s18_12]
      simp only [s18_13, s18_14, s18_17, s18_20, am_pu_s, am_pu_n, va_rf_s, va_rf_n, Option.bind_some, true_or, or_true, eq_self, if_true, if_false, ite_self, ite_true, ite_false, ↓reduceIte, reduceCtorEq, Nat.reduceEqDiff, Nat.reduceAdd, Nat.reduceLT, Nat.reduceLeDiff, Nat.reduceMul, Nat.reduceSub, not_true_eq_false, not_false_eq_true, and_self, and_true, true_and, and_false, false_and, kdT h1.1 (isTu8 hb), cR_N h1 hb, e1]
    | succ m ih =>
      intro k σ1 hk hp1 g1 g2 hr
      have h1 := h.prA hp1
      have e1 : ¬ nI (S 1 b 0) < nI k := nI_nlt (by omega) (by omega)
      rw [s18_12]
      simp only [s18_13, s18_14, s18_17, s18_20, s18_21, s18_24, s18_25, s18_26, s18_27, s18_30, am_pu_s, am_pu_n, va_rf_s, va_rf_n, Option.bind_some, true_or, or_true, eq_self, if_true, if_false, ite_self, ite_true, ite_false, ↓reduceIte, reduceCtorEq, Nat.reduceEqDiff, Nat.reduceAdd, Nat.reduceLT, Nat.reduceLeDiff, Nat.reduceMul, Nat.reduceSub, not_true_eq_false, not_false_eq_true, and_self, and_true, true_and, and_false, false_and, nI_add, h1.1, kd55, rr55_0, kdT h1.1 (isTu8 hb), cR_N h1 hb, e1, ix56 h1.1 (show k < 61 by omega), nI_cl (show k < 2147483648 by omega)]
      exact ih (k + 1) _ (by omega) (hp1.w (by rfl)) (by rw [am_I_wI, if_neg (by omega)]; exact g1) (by rw [am_I_wI, if_neg (by omega)]; exact g2) (fun i hi => by
        rw [am_I_wI]
        by_cases e : i = k
        · rw [if_pos ⟨rfl, e⟩]
        · rw [if_neg (fun q => e q.2)]
          exact hr i (by omega))
  have inner : ∀ i, i < S 1 a 0 → ∀ j σ1 L t, j ≤ S 1 b 0 → am_pr nsA σ σ1 → L ≤ 60 → am_I σ1 55 1 = nI L → am_I σ1 55 2 = wM t → aC (S 0 a) (S 0 b) (S 1 a 0) (S 1 b 0) i j L t → (∀ k, k ≤ S 1 b 0 → am_I σ1 56 k = nI (if j < k then sEn (S 0 a) (S 0 b) (i + 1) k else sEn (S 0 a) (S 0 b) i k)) → ∃ σ' L' t', am_w X (d + 1) 18 49 [some (.ref (55 : Nat)), some (.ref (15 + 3 * a)), some (.ref (15 + 3 * b)), some (.int (nI i)), some (.int (nI j))] [] σ1 = am_w X (d + 1) 18 136 [some (.ref (55 : Nat)), some (.ref (15 + 3 * a)), some (.ref (15 + 3 * b)), some (.int (nI i)), some (.int (nI 0))] [] σ' ∧ am_pr nsA σ σ' ∧ L' ≤ 60 ∧ am_I σ' 55 1 = nI L' ∧ am_I σ' 55 2 = wM t' ∧ aC (S 0 a) (S 0 b) (S 1 a 0) (S 1 b 0) i 0 L' t' ∧ ∀ k, k ≤ S 1 b 0 → am_I σ' 56 k = nI (sEn (S 0 a) (S 0 b) (i + 1) k) := by
    intro i hi j
    induction j with
    | zero =>
      intro σ1 L t hj hp1 hL g1 g2 hI hr
      have e1 : nI 0 < nI 1 := nI_lt (by omega) (by decide)
      refine ⟨σ1, L, t, ?_, hp1, hL, g1, g2, hI, fun k hk => ?_⟩
      · rw [s18_49]
        simp only [s18_51, s18_52, am_pu_s, am_pu_n, va_rf_s, va_rf_n, Option.bind_some, true_or, or_true, eq_self, if_true, if_false, ite_self, ite_true, ite_false, ↓reduceIte, reduceCtorEq, Nat.reduceEqDiff, Nat.reduceAdd, Nat.reduceLT, Nat.reduceLeDiff, Nat.reduceMul, Nat.reduceSub, not_true_eq_false, not_false_eq_true, and_self, and_true, true_and, and_false, false_and, e1]
      · rw [hr k hk]
        by_cases h0 : 0 < k
        · rw [if_pos h0]
        · rw [if_neg h0, show k = 0 by omega]
          cases i <;> rfl
    | succ u ih =>
      intro σ1 L t hj hp1 hL g1 g2 hI hr
      have h1 := h.prA hp1
      have e1 : ¬ nI (u + 1) < nI 1 := nI_nlt (by omega) (by omega)
      have r2 := hr u (by omega)
      rw [if_neg (by omega)] at r2
      have q0 := (sEn_ok (S 0 a) (S 0 b) i u).1.1
      have q1 := (sEn_ok (S 0 a) (S 0 b) (i + 1) (u + 1)).1.1
      have e2 : (nI (S 0 a i) = nI (S 0 b u)) = (S 0 a i = S 0 b u) := nI_EQ (by have := sO_B hO ha (show i < 60 by omega); omega) (by have := sO_B hO hb (show u < 60 by omega); omega)
      have e4 : nI (u + 1) - nI 1 = nI u := pk_sub (by omega)
      have e5 : nI (u + 1) + -1 = nI u := nI_pm u
      have st : am_w X (d + 1) 18 49 [some (.ref (55 : Nat)), some (.ref (15 + 3 * a)), some (.ref (15 + 3 * b)), some (.int (nI i)), some (.int (nI (u + 1)))] [] σ1 = am_w X (d + 1) 18 93 [some (.ref (55 : Nat)), some (.ref (15 + 3 * a)), some (.ref (15 + 3 * b)), some (.int (nI i)), some (.int (nI (u + 1)))] [] (am_wI σ1 56 (u + 1) (nI (sEn (S 0 a) (S 0 b) (i + 1) (u + 1)))) := by
        rw [s18_49]
        by_cases hc : S 0 a i = S 0 b u
        · rw [show sEn (S 0 a) (S 0 b) (i + 1) (u + 1) = sEn (S 0 a) (S 0 b) i u + 1 by rw [sEn, if_pos hc]]
          simp only [s18_51, s18_52, s18_55, s18_56, s18_59, s18_61, s18_62, s18_63, s18_66, s18_67, s18_69, s18_70, s18_71, s18_74, s18_77, s18_78, s18_81, s18_83, s18_84, s18_85, s18_86, s18_87, s18_88, s18_91, s18_92, am_pu_s, am_pu_n, va_rf_s, va_rf_n, Option.bind_some, true_or, or_true, eq_self, if_true, if_false, ite_self, ite_true, ite_false, ↓reduceIte, reduceCtorEq, Nat.reduceEqDiff, Nat.reduceAdd, Nat.reduceLT, Nat.reduceLeDiff, Nat.reduceMul, Nat.reduceSub, not_true_eq_false, not_false_eq_true, and_self, and_true, true_and, and_false, false_and, nI_add, h1.1, kd55, rr55_0, kdT h1.1 (isTu8 ha), kdT h1.1 (isTu8 hb), e1, m51 h1.1 (isTu8 ha) (cR_T h1 ha) hA (show i ≤ 60 by omega), m51 h1.1 (isTu8 hb) (cR_T h1 hb) hB (show u ≤ 60 by omega), hi, show u < S 1 b 0 by omega, e2, e4, hc, ix56 h1.1 (show u < 61 by omega), ix56 h1.1 (show u + 1 < 61 by omega), nI_cl (show u < 2147483648 by omega), nI_cl (show u + 1 < 2147483648 by omega), r2]
        · rw [show sEn (S 0 a) (S 0 b) (i + 1) (u + 1) = 0 by rw [sEn, if_neg hc]]
          simp only [s18_51, s18_52, s18_55, s18_56, s18_59, s18_61, s18_62, s18_63, s18_66, s18_67, s18_69, s18_70, s18_71, s18_74, s18_77, s18_78, s18_81, s18_83, s18_84, s18_85, s18_86, s18_87, s18_88, s18_91, s18_92, am_pu_s, am_pu_n, va_rf_s, va_rf_n, Option.bind_some, true_or, or_true, eq_self, if_true, if_false, ite_self, ite_true, ite_false, ↓reduceIte, reduceCtorEq, Nat.reduceEqDiff, Nat.reduceAdd, Nat.reduceLT, Nat.reduceLeDiff, Nat.reduceMul, Nat.reduceSub, not_true_eq_false, not_false_eq_true, and_self, and_true, true_and, and_false, false_and, nI_add, h1.1, kd55, rr55_0, kdT h1.1 (isTu8 ha), kdT h1.1 (isTu8 hb), e1, m51 h1.1 (isTu8 ha) (cR_T h1 ha) hA (show i ≤ 60 by omega), m51 h1.1 (isTu8 hb) (cR_T h1 hb) hB (show u ≤ 60 by omega), hi, show u < S 1 b 0 by omega, e2, e4, hc, ix56 h1.1 (show u + 1 < 61 by omega), nI_cl (show u + 1 < 2147483648 by omega)]
      rw [st]
      have hp2 : am_pr nsA σ (am_wI σ1 56 (u + 1) (nI (sEn (S 0 a) (S 0 b) (i + 1) (u + 1)))) := hp1.w (by rfl)
      have w0 : ∀ k, am_I (am_wI σ1 56 (u + 1) (nI (sEn (S 0 a) (S 0 b) (i + 1) (u + 1)))) 55 k = am_I σ1 55 k := fun k => by rw [am_I_wI, if_neg (by omega)]
      have w1 : am_I (am_wI σ1 56 (u + 1) (nI (sEn (S 0 a) (S 0 b) (i + 1) (u + 1)))) 56 (u + 1) = nI (sEn (S 0 a) (S 0 b) (i + 1) (u + 1)) := by rw [am_I_wI, if_pos ⟨rfl, rfl⟩]
      have w2 : ∀ k, k ≤ S 1 b 0 → am_I (am_wI σ1 56 (u + 1) (nI (sEn (S 0 a) (S 0 b) (i + 1) (u + 1)))) 56 k = nI (if u < k then sEn (S 0 a) (S 0 b) (i + 1) k else sEn (S 0 a) (S 0 b) i k) := by
        intro k hk
        rw [am_I_wI]
        by_cases e : k = u + 1
        · rw [if_pos ⟨rfl, e⟩, if_pos (by omega), e]
        · rw [if_neg (fun q => e q.2), hr k hk]
          by_cases h5 : u + 1 < k
          · rw [if_pos h5, if_pos (by omega)]
          · rw [if_neg h5, if_neg (by omega)]
      generalize am_wI σ1 56 (u + 1) (nI (sEn (S 0 a) (S 0 b) (i + 1) (u + 1))) = σ2 at hp2 w0 w1 w2 ⊢
      have h2 := h.prA hp2
      obtain ⟨p1, p2⟩ := aC_s hi (show u < S 1 b 0 by omega) hI
      have e6 : (nI (sEn (S 0 a) (S 0 b) (i + 1) (u + 1)) ≤ nI L) = (sEn (S 0 a) (S 0 b) (i + 1) (u + 1) ≤ L) := nI_LE (by omega) (by omega)
      by_cases hc : L < sEn (S 0 a) (S 0 b) (i + 1) (u + 1)
      · have hc' : ¬ sEn (S 0 a) (S 0 b) (i + 1) (u + 1) ≤ L := by omega
        have e7 := nI_ie i (by omega) (sEn (S 0 a) (S 0 b) (i + 1) (u + 1)) (by omega)
        have e8 : wM (i + 1 - sEn (S 0 a) (S 0 b) (i + 1) (u + 1) + 1) = nI (i + 1 - sEn (S 0 a) (S 0 b) (i + 1) (u + 1)) := if_neg (by omega)
        obtain ⟨σ3, L', t', c1, c2⟩ := ih (am_wI (am_wI σ2 55 1 (nI (sEn (S 0 a) (S 0 b) (i + 1) (u + 1)))) 55 2 (nI (i + 1 - sEn (S 0 a) (S 0 b) (i + 1) (u + 1)))) _ _ (by omega) ((hp2.w (by rfl)).w (by rfl)) (by omega) (by rw [am_I_wI, if_neg (by omega), am_I_wI, if_pos ⟨rfl, rfl⟩]) (by rw [am_I_wI, if_pos ⟨rfl, rfl⟩, e8]) (p1 hc) (fun k hk => by
          rw [am_I_wI, if_neg (by omega), am_I_wI, if_neg (by omega)]
          exact w2 k hk)
        refine ⟨σ3, L', t', ?_, c2⟩
        rw [s18_93]
        simp only [s18_94, s18_97, s18_99, s18_100, s18_101, s18_104, s18_107, s18_108, s18_109, s18_112, s18_114, s18_115, s18_118, s18_119, s18_120, s18_121, s18_124, s18_125, s18_126, s18_127, s18_130, s18_133, am_pu_s, am_pu_n, va_rf_s, va_rf_n, Option.bind_some, true_or, or_true, eq_self, if_true, if_false, ite_self, ite_true, ite_false, ↓reduceIte, reduceCtorEq, Nat.reduceEqDiff, Nat.reduceAdd, Nat.reduceLT, Nat.reduceLeDiff, Nat.reduceMul, Nat.reduceSub, not_true_eq_false, not_false_eq_true, and_self, and_true, true_and, and_false, false_and, am_I_wI, am_I_wJ, am_J_wI, am_J_wJ, am_R_wI, am_R_wJ, am_kd_wI, am_kd_wJ, am_ln_wI, am_ln_wJ, am_ix_wI, am_ix_wJ, am_F_wI, am_F_wJ, am_I_wC, am_J_wC, am_R_wC, am_kd_wC, am_ln_wC, am_ix_wC, am_F_wC, h2.1, kd55, rr55_0, ix56 h2.1 (show u + 1 < 61 by omega), nI_cl (show u + 1 < 2147483648 by omega), w0, w1, g1, e6, hc', e5, e7]
        exact c1
      · have hc' : sEn (S 0 a) (S 0 b) (i + 1) (u + 1) ≤ L := by omega
        obtain ⟨σ3, L', t', c1, c2⟩ := ih σ2 L t (by omega) hp2 hL (by rw [w0]; exact g1) (by rw [w0]; exact g2) (p2 hc) w2
        refine ⟨σ3, L', t', ?_, c2⟩
        rw [s18_93]
        simp only [s18_94, s18_97, s18_99, s18_100, s18_101, s18_104, s18_107, s18_108, s18_109, s18_112, s18_114, s18_115, s18_118, s18_119, s18_120, s18_121, s18_124, s18_125, s18_126, s18_127, s18_130, s18_133, am_pu_s, am_pu_n, va_rf_s, va_rf_n, Option.bind_some, true_or, or_true, eq_self, if_true, if_false, ite_self, ite_true, ite_false, ↓reduceIte, reduceCtorEq, Nat.reduceEqDiff, Nat.reduceAdd, Nat.reduceLT, Nat.reduceLeDiff, Nat.reduceMul, Nat.reduceSub, not_true_eq_false, not_false_eq_true, and_self, and_true, true_and, and_false, false_and, am_I_wI, am_I_wJ, am_J_wI, am_J_wJ, am_R_wI, am_R_wJ, am_kd_wI, am_kd_wJ, am_ln_wI, am_ln_wJ, am_ix_wI, am_ix_wJ, am_F_wI, am_F_wJ, am_I_wC, am_J_wC, am_R_wC, am_kd_wC, am_ln_wC, am_ix_wC, am_F_wC, h2.1, kd55, rr55_0, ix56 h2.1 (show u + 1 < 61 by omega), nI_cl (show u + 1 < 2147483648 by omega), w0, w1, g1, e6, hc', e5]
        exact c1
  have outer : ∀ m i σ1 L t l4, i + m = S 1 a 0 → am_pr nsA σ σ1 → L ≤ 60 → am_I σ1 55 1 = nI L → am_I σ1 55 2 = wM t → aC (S 0 a) (S 0 b) (S 1 a 0) (S 1 b 0) i (S 1 b 0) L t → (∀ k, k ≤ S 1 b 0 → am_I σ1 56 k = nI (sEn (S 0 a) (S 0 b) i k)) → ∃ σ' L t, am_w X (d + 1) 18 35 [some (.ref (55 : Nat)), some (.ref (15 + 3 * a)), some (.ref (15 + 3 * b)), some (.int (nI i)), l4] [] σ1 = some (none, σ') ∧ am_pr nsA σ σ' ∧ aAl (S 0 a) (S 0 b) (S 1 a 0) (S 1 b 0) L t ∧ am_I σ' 55 1 = nI L ∧ am_I σ' 55 2 = wM t := by
    intro m
    induction m with
    | zero =>
      intro i σ1 L t l4 hk hp1 hL g1 g2 hI hr
      have hk : i = S 1 a 0 := by omega
      subst hk
      have h1 := h.prA hp1
      refine ⟨σ1, L, t, ?_, hp1, aC_e hI, g1, g2⟩
      rw [s18_35]
      simp only [s18_36, s18_37, s18_40, s18_43, s18_142, am_pu_s, am_pu_n, va_rf_s, va_rf_n, Option.bind_some, true_or, or_true, eq_self, if_true, if_false, ite_self, ite_true, ite_false, ↓reduceIte, reduceCtorEq, Nat.reduceEqDiff, Nat.reduceAdd, Nat.reduceLT, Nat.reduceLeDiff, Nat.reduceMul, Nat.reduceSub, not_true_eq_false, not_false_eq_true, and_self, and_true, true_and, and_false, false_and, kdT h1.1 (isTu8 ha), cR_N h1 ha, Int32.le_refl]
    | succ m ih =>
      intro i σ1 L t l4 hk hp1 hL g1 g2 hI hr
      have h1 := h.prA hp1
      have e1 : ¬ nI (S 1 a 0) ≤ nI i := nI_ge (by omega) (by omega)
      obtain ⟨σ2, L', t', c1, hp2, c3, c4, c5, c6, c7⟩ := inner i (by omega) (S 1 b 0) σ1 L t (Nat.le_refl _) hp1 hL g1 g2 hI (fun k hk => by rw [hr k hk, if_neg (by omega)])
      obtain ⟨σ3, L3, t3, p1, p2⟩ := ih (i + 1) σ2 L' t' (some (.int (nI 0))) (by omega) hp2 c3 c4 c5 (aC_r c6) c7
      refine ⟨σ3, L3, t3, ?_, p2⟩
      rw [s18_35]
      simp only [s18_36, s18_37, s18_40, s18_43, s18_44, s18_47, am_pu_s, am_pu_n, va_rf_s, va_rf_n, Option.bind_some, true_or, or_true, eq_self, if_true, if_false, ite_self, ite_true, ite_false, ↓reduceIte, reduceCtorEq, Nat.reduceEqDiff, Nat.reduceAdd, Nat.reduceLT, Nat.reduceLeDiff, Nat.reduceMul, Nat.reduceSub, not_true_eq_false, not_false_eq_true, and_self, and_true, true_and, and_false, false_and, kdT h1.1 (isTu8 ha), kdT h1.1 (isTu8 hb), cR_N h1 ha, cR_N h1 hb, e1]
      rw [c1]
      simp only [s18_136, s18_139, am_pu_s, am_pu_n, va_rf_s, va_rf_n, Option.bind_some, true_or, or_true, eq_self, if_true, if_false, ite_self, ite_true, ite_false, ↓reduceIte, reduceCtorEq, Nat.reduceEqDiff, Nat.reduceAdd, Nat.reduceLT, Nat.reduceLeDiff, Nat.reduceMul, Nat.reduceSub, not_true_eq_false, not_false_eq_true, and_self, and_true, true_and, and_false, false_and, nI_add]
      exact p1
  have hF := h.1
  obtain ⟨σ1, e1, hp1, g1, g2, hr1⟩ := first (S 1 b 0 + 1) 0 (am_wI (am_wI σ 55 1 (nI 0)) 55 2 (-1)) (by omega) (((am_pr.rf h.1).w (by rfl)).w (by rfl)) (by rw [am_I_wI, if_neg (by omega), am_I_wI, if_pos ⟨rfl, rfl⟩]) (by rw [am_I_wI, if_pos ⟨rfl, rfl⟩]) (fun i hi => absurd hi (by omega))
  obtain ⟨σ2, L, t, e2, hp2⟩ := outer (S 1 a 0) 0 σ1 0 0 none (by omega) hp1 (by omega) g1 (by rw [g2]; rfl) (aC_0 _ _ _ _) (fun k hk => by rw [hr1 k hk, sEn])
  refine ⟨σ2, L, t, ?_, hp2⟩
  rw [s18]
  simp only [s18_0, s18_1, s18_2, s18_5, s18_6, s18_7, s18_10, s18_11, am_pu_s, am_pu_n, va_rf_s, va_rf_n, Option.bind_some, true_or, or_true, eq_self, if_true, if_false, ite_self, ite_true, ite_false, ↓reduceIte, reduceCtorEq, Nat.reduceEqDiff, Nat.reduceAdd, Nat.reduceLT, Nat.reduceLeDiff, Nat.reduceMul, Nat.reduceSub, not_true_eq_false, not_false_eq_true, and_self, and_true, true_and, and_false, false_and, am_I_wI, am_I_wJ, am_J_wI, am_J_wJ, am_R_wI, am_R_wJ, am_kd_wI, am_kd_wJ, am_ln_wI, am_ln_wJ, am_ix_wI, am_ix_wJ, am_F_wI, am_F_wJ, am_I_wC, am_J_wC, am_R_wC, am_kd_wC, am_ln_wC, am_ix_wC, am_F_wC, hF, kd55]
  rw [e1]
  simp only [s18_33, s18_34, am_pu_s, am_pu_n, va_rf_s, va_rf_n, Option.bind_some, true_or, or_true, eq_self, if_true, if_false, ite_self, ite_true, ite_false, ↓reduceIte, reduceCtorEq, Nat.reduceEqDiff, Nat.reduceAdd, Nat.reduceLT, Nat.reduceLeDiff, Nat.reduceMul, Nat.reduceSub, not_true_eq_false, not_false_eq_true, and_self, and_true, true_and, and_false, false_and]
  exact e2
def isAl (S : am_St) (v w x : Int32) (r : Int32) : Prop := match tI S v, tI S w with
  | some a, some b => if x = nI 0 ∨ x = nI 1 then ∃ L t, aAl (S 0 a) (S 0 b) (S 1 a 0) (S 1 b 0) L t ∧ r = (if x = nI 0 then nI L else wM t) else r = -102
  | _, _ => r = -101
theorem isAl_u {v w x r r' : Int32} (h : isAl S v w x r) (h' : isAl S v w x r') : r = r' := by
  unfold isAl at h h'
  split at h
  · rename_i a b e1 e2
    rw [e1, e2] at h'
    dsimp only at h'
    by_cases hx : x = nI 0 ∨ x = nI 1
    · rw [if_pos hx] at h h'
      obtain ⟨L, t, q1, q2⟩ := h
      obtain ⟨L', t', q1', q2'⟩ := h'
      obtain ⟨e3, e4⟩ := aAl_u q1 q1'
      rw [q2, q2', e3, e4]
    · rw [if_neg hx] at h h'
      rw [h, h']
  · rename_i hn
    split at h'
    · rename_i a b e1 e2
      exact absurd e2 (hn a b e1)
    · rw [h, h']
end AL
