/-! the PAGE read as a TUNE: what is known behind some letters.
0 how many are open, 1 what may come next (0 an ITEM, 1 a "[", 2 a first NOTE of a chord, 3 a further one), 2 the chord, 3 the digit, 4 how many "^", 5 whether it may end, 6 how deep, 7 how many BEATS, 8 too long, 9 BEATS, 10 starts, 11 times (0: "<"), 12 raises -/
abbrev am_T : Type := Nat → Nat → Nat
def tW (T : am_T) (i j v : Nat) : am_T := fun a b => if a = i ∧ b = j then v else T a b
def tAdd (T : am_T) (b : Nat) : am_T := if T 7 0 < 60 then tW (tW T 9 (T 7 0) b) 7 0 (T 7 0 + 1) else tW T 8 0 1
def tIt (T : am_T) : am_T := tW (tW (tW T 4 0 0) 1 0 0) 5 0 1
def tFin (T : am_T) (b : Nat) : am_T := tIt (tAdd T (sRa b (T 4 0)))
def tOp (T : am_T) (s : Nat) : am_T := tW (tW (tW (tW (tW (tW (tW (tW T 10 (T 0 0) (T 7 0)) 11 (T 0 0) s) 12 (T 0 0) (T 4 0)) 0 0 (T 0 0 + 1)) 6 0 (max (T 6 0) (T 0 0 + 1))) 4 0 0) 1 0 0) 5 0 0
def tSw (T : am_T) (i j : Nat) : am_T := tW (tW T 9 i (T 9 j)) 9 j (T 9 i)
def tTu : Nat → Nat → Nat → am_T → am_T
  | 0, _, _, T => T
  | f + 1, i, j, T => if i < j then tTu f (i + 1) (j - 1) (tSw T i j) else T
def tRp (T : am_T) (a n : Nat) : am_T := am_fd (fun _ T1 => am_fd (fun k T2 => tAdd T2 (T2 9 k)) a (T 7 0 - a) T1) 1 (n - 1) T
def tRi (T : am_T) (a r : Nat) : am_T := am_fd (fun k T1 => tW T1 9 k (sRa (T1 9 k) r)) a (T 7 0 - a) T
def tC1 (T : am_T) : am_T := tW T 0 0 (T 0 0 - 1)
def tC2 (T : am_T) : am_T := if T 11 (T 0 0 - 1) = 0 then tTu 60 (T 10 (T 0 0 - 1)) (T 7 0 - 1) (tC1 T) else tRp (tC1 T) (T 10 (T 0 0 - 1)) (T 11 (T 0 0 - 1))
def tCl (T : am_T) : am_T := tRi (tC2 T) (T 10 (T 0 0 - 1)) (T 12 (T 0 0 - 1))
def rdS (T : am_T) (c : Nat) : Option am_T :=
  if T 1 0 = 0 then
    if 97 ≤ c ∧ c ≤ 103 then some (tFin T (2 ^ (c - 97)))
    else if c = 46 then some (tFin T 0)
    else if c = 40 then some (tW (tW (tW T 1 0 2) 2 0 0) 5 0 0)
    else if 50 ≤ c ∧ c ≤ 52 then some (tW (tW (tW T 1 0 1) 3 0 (c - 48)) 5 0 0)
    else if c = 60 then some (tOp T 0)
    else if c = 94 then some (tW (tW T 4 0 (T 4 0 + 1)) 5 0 0)
    else if c = 93 then (if T 5 0 = 1 ∧ 0 < T 0 0 ∧ ¬ T 11 (T 0 0 - 1) = 0 then some (tCl T) else none)
    else if c = 62 then (if T 5 0 = 1 ∧ 0 < T 0 0 ∧ T 11 (T 0 0 - 1) = 0 then some (tCl T) else none)
    else none
  else if T 1 0 = 1 then (if c = 91 then some (tOp T (T 3 0)) else none)
  else if 97 ≤ c ∧ c ≤ 103 then some (tW (tW T 1 0 3) 2 0 (T 2 0 ||| 2 ^ (c - 97)))
  else if T 1 0 = 3 ∧ c = 41 then some (tFin T (T 2 0)) else none
def tB (T : am_T) : Prop := T 7 0 ≤ 60 ∧ T 8 0 ≤ 1 ∧ ∀ j, j < T 7 0 → T 9 j < 128
def tSm (T T' : am_T) : Prop := (∀ a b, ¬ a = 7 → ¬ a = 8 → ¬ a = 9 → T' a b = T a b) ∧ T 7 0 ≤ T' 7 0 ∧ tB T'
def tOK (T : am_T) (k : Nat) : Prop := (T 0 0 ≤ k ∧ T 1 0 < 4 ∧ T 4 0 ≤ k ∧ T 5 0 ≤ 1 ∧ T 6 0 ≤ k) ∧ (2 ≤ T 1 0 → T 2 0 < 128 ∧ (T 2 0 = 0 ↔ T 1 0 = 2)) ∧ (T 1 0 = 1 → 2 ≤ T 3 0 ∧ T 3 0 ≤ 4) ∧ (T 5 0 = 1 → T 1 0 = 0 ∧ T 4 0 = 0 ∧ 1 ≤ T 7 0) ∧ tB T ∧ ∀ j, j < T 0 0 → T 10 j ≤ T 7 0 ∧ T 11 j ≤ 4 ∧ ¬ T 11 j = 1 ∧ T 12 j ≤ k
theorem tSm.tr {T T1 T2 : am_T} (h1 : tSm T T1) (h2 : tSm T1 T2) : tSm T T2 := ⟨fun a b q1 q2 q3 => (h2.1 a b q1 q2 q3).trans (h1.1 a b q1 q2 q3), Nat.le_trans h1.2.1 h2.2.1, h2.2.2⟩
theorem tSm.rf {T : am_T} (h : tB T) : tSm T T := ⟨fun _ _ _ _ _ => rfl, Nat.le_refl _, h⟩
theorem am_fd_P {α : Type} {P : α → Prop} (f : Nat → α → α) : ∀ n i a, (∀ k x, i ≤ k → k < i + n → P x → P (f k x)) → P a → P (am_fd f i n a)
  | 0, _, _, _, h => h
  | n + 1, i, a, hs, h => am_fd_P f n (i + 1) (f i a) (fun k x q1 q2 => hs k x (by omega) (by omega)) (hs i a (by omega) (by omega) h)
theorem tW_n {T : am_T} {i j v a b : Nat} (h : ¬ a = i) : tW T i j v a b = T a b := if_neg fun q => h q.1
theorem tW_m {T : am_T} {i j v b : Nat} (h : ¬ b = j) : tW T i j v i b = T i b := if_neg fun q => h q.2
theorem tW_e {T : am_T} {i j v : Nat} : tW T i j v i j = v := if_pos ⟨rfl, rfl⟩
theorem tSm_add {T : am_T} {b : Nat} (h : tB T) (hb : b < 128) : tSm T (tAdd T b) := by
  obtain ⟨h1, h2, h3⟩ := h
  unfold tAdd
  by_cases c : T 7 0 < 60
  · rw [if_pos c]
    refine ⟨fun a b q1 q2 q3 => ?_, ?_, ?_, ?_, fun j hj => ?_⟩
    · rw [tW_n q1, tW_n q3]
    · rw [tW_e]; omega
    · rw [tW_e]; omega
    · exact h2
    · rw [tW_e] at hj
      rw [tW_n (by omega)]
      by_cases e : j = T 7 0
      · rw [e, tW_e]; exact hb
      · rw [tW_m e]; exact h3 j (by omega)
  · rw [if_neg c]
    refine ⟨fun a b q1 q2 q3 => ?_, ?_, ?_, ?_, fun j hj => ?_⟩
    · rw [tW_n q2]
    · exact Nat.le_refl _
    · exact h1
    · rw [tW_e]; omega
    · exact h3 j hj
theorem tAdd_1 {T : am_T} {b : Nat} : 1 ≤ tAdd T b 7 0 := by
  unfold tAdd
  by_cases c : T 7 0 < 60
  · rw [if_pos c, tW_e]; omega
  · rw [if_neg c, tW_n (by omega)]; omega
theorem tSm_w9 {T : am_T} {i b : Nat} (h : tB T) (hb : b < 128) : tSm T (tW T 9 i b) ∧ tW T 9 i b 7 0 = T 7 0 := by
  obtain ⟨h1, h2, h3⟩ := h
  refine ⟨⟨fun a b q1 q2 q3 => tW_n q3, Nat.le_refl _, h1, h2, fun j hj => ?_⟩, rfl⟩
  by_cases e : j = i
  · rw [e, tW_e]; exact hb
  · rw [tW_m e]; exact h3 j hj
theorem tSm_sw {T : am_T} {i j : Nat} (h : tB T) (hi : i < T 7 0) (hj : j < T 7 0) : tSm T (tSw T i j) ∧ tSw T i j 7 0 = T 7 0 := by
  have h1 := tSm_w9 (i := i) h (h.2.2 j hj)
  have h2 := tSm_w9 (i := j) h1.1.2.2 (h.2.2 i hi)
  exact ⟨h1.1.tr h2.1, rfl⟩
theorem tSm_tu : ∀ f i j (T : am_T), tB T → j < T 7 0 → tSm T (tTu f i j T) ∧ tTu f i j T 7 0 = T 7 0
  | 0, _, _, T, h, _ => ⟨tSm.rf h, rfl⟩
  | f + 1, i, j, T, h, hj => by
    rw [tTu]
    by_cases c : i < j
    · rw [if_pos c]
      have h1 := tSm_sw h (show i < T 7 0 by omega) hj
      have h2 := tSm_tu f (i + 1) (j - 1) (tSw T i j) h1.1.2.2 (by rw [h1.2]; omega)
      exact ⟨h1.1.tr h2.1, by rw [h2.2, h1.2]⟩
    · rw [if_neg c]
      exact ⟨tSm.rf h, rfl⟩
theorem tSm_rp {T : am_T} {a n : Nat} (h : tB T) : tSm T (tRp T a n) := by
  unfold tRp
  refine am_fd_P (P := fun x => tSm T x) _ _ _ _ (fun k x q1 q2 hx => ?_) (tSm.rf h)
  refine am_fd_P (P := fun x => tSm T x) _ _ _ _ (fun k x q1 q2 hx => ?_) hx
  refine hx.tr (tSm_add hx.2.2 (hx.2.2.2.2 k ?_))
  have := hx.2.1
  omega
theorem tSm_ri {T : am_T} {a r : Nat} (h : tB T) : tSm T (tRi T a r) ∧ tRi T a r 7 0 = T 7 0 := by
  unfold tRi
  refine am_fd_P (P := fun x => tSm T x ∧ x 7 0 = T 7 0) _ _ _ _ (fun k x q1 q2 hx => ?_) ⟨tSm.rf h, rfl⟩
  have h1 := tSm_w9 (i := k) hx.1.2.2 (sRa_lt (x := r) (hx.1.2.2.2.2 k (by rw [hx.2]; omega)))
  exact ⟨hx.1.tr h1.1, by rw [h1.2, hx.2]⟩
theorem tB_c1 {T : am_T} (h : tB T) : tB (tC1 T) := h
theorem tSm_c2 {T : am_T} (h : tB T) (h1 : 1 ≤ T 7 0) : tSm (tC1 T) (tC2 T) := by
  unfold tC2
  by_cases c : T 11 (T 0 0 - 1) = 0
  · rw [if_pos c]
    exact (tSm_tu _ _ _ _ (tB_c1 h) (show T 7 0 - 1 < T 7 0 by omega)).1
  · rw [if_neg c]
    exact tSm_rp (tB_c1 h)
theorem tSm_cl {T : am_T} (h : tB T) (h1 : 1 ≤ T 7 0) : tSm (tC1 T) (tCl T) := by
  have h2 := tSm_c2 h h1
  exact h2.tr (tSm_ri h2.2.2).1
theorem tOK_fin {T : am_T} {k b : Nat} (h : tOK T k) (hb : b < 128) : tOK (tFin T b) (k + 1) := by
  obtain ⟨⟨a0, a1, a4, a5, a6⟩, h2, h3, h5, hB, hs⟩ := h
  have s := tSm_add hB (sRa_lt (x := T 4 0) hb)
  have p := tAdd_1 (T := T) (b := sRa b (T 4 0))
  unfold tFin
  generalize tAdd T (sRa b (T 4 0)) = T1 at s p
  have e0 : T1 0 0 = T 0 0 := s.1 0 0 (by decide) (by decide) (by decide)
  have e6 : T1 6 0 = T 6 0 := s.1 6 0 (by decide) (by decide) (by decide)
  refine ⟨⟨?_, ?_, ?_, ?_, ?_⟩, fun q => ?_, fun q => ?_, fun _ => ⟨rfl, rfl, p⟩, s.2.2, fun j hj => ?_⟩
  · show T1 0 0 ≤ k + 1
    omega
  · show 0 < 4
    omega
  · show 0 ≤ k + 1
    omega
  · show 1 ≤ 1
    omega
  · show T1 6 0 ≤ k + 1
    omega
  · exact absurd (show 2 ≤ 0 from q) (by decide)
  · exact absurd (show 0 = 1 from q) (by decide)
  · have hj' : j < T 0 0 := by rw [← e0]; exact hj
    obtain ⟨q1, q2, q3, q4⟩ := hs j hj'
    show T1 10 j ≤ T1 7 0 ∧ T1 11 j ≤ 4 ∧ ¬ T1 11 j = 1 ∧ T1 12 j ≤ k + 1
    rw [s.1 10 j (by decide) (by decide) (by decide), s.1 11 j (by decide) (by decide) (by decide), s.1 12 j (by decide) (by decide) (by decide)]
    have := s.2.1
    omega
theorem tOK_op {T : am_T} {k s : Nat} (h : tOK T k) (h4 : s ≤ 4) (h1 : ¬ s = 1) : tOK (tOp T s) (k + 1) := by
  obtain ⟨⟨a0, a1, a4, a5, a6⟩, h2, h3, h5, hB, hs⟩ := h
  unfold tOp
  refine ⟨⟨?_, ?_, ?_, ?_, ?_⟩, fun q => ?_, fun q => ?_, fun q => ?_, hB, fun j hj => ?_⟩
  · show T 0 0 + 1 ≤ k + 1
    omega
  · show 0 < 4
    omega
  · show 0 ≤ k + 1
    omega
  · show 0 ≤ 1
    omega
  · show max (T 6 0) (T 0 0 + 1) ≤ k + 1
    omega
  · exact absurd (show 2 ≤ 0 from q) (by decide)
  · exact absurd (show 0 = 1 from q) (by decide)
  · exact absurd (show 0 = 1 from q) (by decide)
  · have hj' : j < T 0 0 + 1 := hj
    show (if 10 = 10 ∧ j = T 0 0 then T 7 0 else T 10 j) ≤ T 7 0 ∧ (if 11 = 11 ∧ j = T 0 0 then s else T 11 j) ≤ 4 ∧ ¬ (if 11 = 11 ∧ j = T 0 0 then s else T 11 j) = 1 ∧ (if 12 = 12 ∧ j = T 0 0 then T 4 0 else T 12 j) ≤ k + 1
    by_cases e : j = T 0 0
    · rw [if_pos ⟨rfl, e⟩, if_pos ⟨rfl, e⟩, if_pos ⟨rfl, e⟩]
      exact ⟨Nat.le_refl _, h4, h1, by omega⟩
    · rw [if_neg (fun q => e q.2), if_neg (fun q => e q.2), if_neg (fun q => e q.2)]
      obtain ⟨q1, q2, q3, q4⟩ := hs j (by omega)
      exact ⟨q1, q2, q3, by omega⟩
theorem tOK_cl {T : am_T} {k : Nat} (h : tOK T k) (h51 : T 5 0 = 1) (h0 : 0 < T 0 0) : tOK (tCl T) (k + 1) := by
  obtain ⟨⟨a0, a1, a4, a5, a6⟩, h2, h3, h5, hB, hs⟩ := h
  obtain ⟨g1, g2, g3⟩ := h5 h51
  have s := tSm_cl hB g3
  generalize tCl T = T1 at s
  have e0 : T1 0 0 = T 0 0 - 1 := s.1 0 0 (by decide) (by decide) (by decide)
  have e1 : T1 1 0 = T 1 0 := s.1 1 0 (by decide) (by decide) (by decide)
  have e4 : T1 4 0 = T 4 0 := s.1 4 0 (by decide) (by decide) (by decide)
  have e5 : T1 5 0 = T 5 0 := s.1 5 0 (by decide) (by decide) (by decide)
  have e6 : T1 6 0 = T 6 0 := s.1 6 0 (by decide) (by decide) (by decide)
  have l7 : T 7 0 ≤ T1 7 0 := s.2.1
  refine ⟨⟨by omega, by omega, by omega, by omega, by omega⟩, fun q => absurd q (by omega), fun q => absurd q (by omega), fun _ => ⟨by omega, by omega, by omega⟩, s.2.2, fun j hj => ?_⟩
  obtain ⟨q1, q2, q3, q4⟩ := hs j (by omega)
  have e10 : T1 10 j = T 10 j := s.1 10 j (by decide) (by decide) (by decide)
  have e11 : T1 11 j = T 11 j := s.1 11 j (by decide) (by decide) (by decide)
  have e12 : T1 12 j = T 12 j := s.1 12 j (by decide) (by decide) (by decide)
  rw [e10, e11, e12]
  omega
theorem c_or : ∀ a, a < 128 → ∀ j, j < 7 → a ||| 2 ^ j < 128 ∧ ¬ a ||| 2 ^ j = 0 := by decide +kernel
theorem c_pw : ∀ j, j < 7 → 2 ^ j < 128 := by decide
theorem rdS_ok {T T' : am_T} {k c : Nat} (h : tOK T k) (hr : rdS T c = some T') : tOK T' (k + 1) := by
  unfold rdS at hr
  have h' := h
  obtain ⟨⟨a0, a1, a4, a5, a6⟩, h2, h3, h5, hB, hs⟩ := h'
  have hs' : ∀ j, j < T 0 0 → T 10 j ≤ T 7 0 ∧ T 11 j ≤ 4 ∧ ¬ T 11 j = 1 ∧ T 12 j ≤ k + 1 := fun j hj => by
    have := hs j hj
    omega
  split at hr
  · rename_i m0
    split at hr
    · rename_i c0
      cases hr
      exact tOK_fin h (c_pw _ (by omega))
    split at hr
    · cases hr
      exact tOK_fin h (by decide)
    split at hr
    · cases hr
      refine ⟨⟨by show T 0 0 ≤ _; omega, by show 2 < 4; omega, by show T 4 0 ≤ _; omega, by show 0 ≤ 1; omega, by show T 6 0 ≤ _; omega⟩, fun _ => ⟨by show 0 < 128; omega, fun _ => rfl, fun _ => rfl⟩, fun q => absurd (show 2 = 1 from q) (by decide), fun q => absurd (show 0 = 1 from q) (by decide), hB, hs'⟩
    split at hr
    · rename_i c0
      cases hr
      refine ⟨⟨by show T 0 0 ≤ _; omega, by show 1 < 4; omega, by show T 4 0 ≤ _; omega, by show 0 ≤ 1; omega, by show T 6 0 ≤ _; omega⟩, fun q => absurd (show 2 ≤ 1 from q) (by decide), fun _ => ⟨by show 2 ≤ c - 48; omega, by show c - 48 ≤ 4; omega⟩, fun q => absurd (show 0 = 1 from q) (by decide), hB, hs'⟩
    split at hr
    · cases hr
      exact tOK_op h (by decide) (by decide)
    split at hr
    · cases hr
      refine ⟨⟨by show T 0 0 ≤ _; omega, by show T 1 0 < 4; omega, by show T 4 0 + 1 ≤ _; omega, by show 0 ≤ 1; omega, by show T 6 0 ≤ _; omega⟩, fun q => absurd (show 2 ≤ T 1 0 from q) (by omega), fun q => absurd (show T 1 0 = 1 from q) (by omega), fun q => absurd (show 0 = 1 from q) (by decide), hB, hs'⟩
    split at hr
    · split at hr
      · rename_i c0
        cases hr
        exact tOK_cl h c0.1 c0.2.1
      · cases hr
    split at hr
    · split at hr
      · rename_i c0
        cases hr
        exact tOK_cl h c0.1 c0.2.1
      · cases hr
    · cases hr
  · rename_i m0
    split at hr
    · rename_i m1
      split at hr
      · cases hr
        have := h3 m1
        exact tOK_op h (by omega) (by omega)
      · cases hr
    · rename_i m1
      split at hr
      · rename_i c0
        cases hr
        have g := (h2 (by omega)).1
        have g2 := c_or _ g (c - 97) (by omega)
        refine ⟨⟨by show T 0 0 ≤ _; omega, by show 3 < 4; omega, by show T 4 0 ≤ _; omega, by show T 5 0 ≤ 1; omega, by show T 6 0 ≤ _; omega⟩, fun _ => ⟨g2.1, fun q => absurd q g2.2, fun q => absurd (show 3 = 2 from q) (by decide)⟩, fun q => absurd (show 3 = 1 from q) (by decide), fun q => ?_, hB, hs'⟩
        exact absurd (h5 q).1 m0
      · split at hr
        · cases hr
          exact tOK_fin h (h2 (by omega)).1
        · cases hr
