/-! SEND: all rows in the order of their numbers; a row is a number to the base GATES + 1 -/
def sB (S : am_St) : Nat := S 4 0 0 + 1
def sD (S : am_St) (r b : Nat) : Nat := r / sB S ^ (3 - b) % sB S
def sPf (S : am_St) : Nat → Nat → Option (Nat × Nat × Nat)
  | 0, _ => some (0, 0, 0)
  | b + 1, p => match sPf S b (p / sB S) with
    | none => none
    | some q => if p % sB S = 0 then some q else if q.1 / 2 ^ (p % sB S - 1) % 2 = 1 ∨ sCh S b (p % sB S - 1) = 0 then none else some (q.1 + 2 ^ (p % sB S - 1), q.2.1 + 1, q.2.2 + (sCh S b (p % sB S - 1) - 1))
def sBt (a : Nat × Nat × Nat) (s c r : Nat) : Nat × Nat × Nat := if a.1 < s + 1 ∨ (a.1 = s + 1 ∧ c < a.2.1) then (s + 1, c, r) else a
def sEv (S : am_St) (r : Nat) (a : Nat × Nat × Nat) : Nat × Nat × Nat := match sPf S 4 r with
  | none => a
  | some q => sBt a q.2.1 q.2.2 r
theorem sB_pos (S : am_St) : 0 < sB S := Nat.succ_pos _
theorem dv_g {B p g : Nat} (hB : 0 < B) (hg : g < B) : (p * B + g) / B = p ∧ (p * B + g) % B = g := by
  constructor
  · rw [Nat.add_comm, Nat.add_mul_div_right _ _ hB, Nat.div_eq_of_lt hg, Nat.zero_add]
  · rw [Nat.add_comm, Nat.add_mul_mod_self_right, Nat.mod_eq_of_lt hg]
theorem sPf_0 {S : am_St} {b p : Nat} {q : Nat × Nat × Nat} (h : sPf S b p = some q) : sPf S (b + 1) (p * sB S) = some q := by
  rw [sPf, Nat.mul_div_cancel _ (sB_pos S), h, Nat.mul_mod_left]
  rfl
theorem sPf_n {S : am_St} {b p g : Nat} {q : Nat × Nat × Nat} (h : sPf S b p = some q) (hg : g < S 4 0 0) (hx : q.1 / 2 ^ g % 2 = 1 ∨ sCh S b g = 0) : sPf S (b + 1) (p * sB S + (g + 1)) = none := by
  have hg' : g + 1 < sB S := by unfold sB; omega
  rw [sPf, (dv_g (sB_pos S) hg').1, (dv_g (sB_pos S) hg').2, h]
  dsimp only
  rw [if_neg (by omega), Nat.add_sub_cancel, if_pos hx]
theorem sPf_y {S : am_St} {b p g : Nat} {q : Nat × Nat × Nat} (h : sPf S b p = some q) (hg : g < S 4 0 0) (hx : ¬ (q.1 / 2 ^ g % 2 = 1 ∨ sCh S b g = 0)) : sPf S (b + 1) (p * sB S + (g + 1)) = some (q.1 + 2 ^ g, q.2.1 + 1, q.2.2 + (sCh S b g - 1)) := by
  have hg' : g + 1 < sB S := by unfold sB; omega
  rw [sPf, (dv_g (sB_pos S) hg').1, (dv_g (sB_pos S) hg').2, h]
  dsimp only
  rw [if_neg (by omega), Nat.add_sub_cancel, if_neg hx]
theorem sPf_none {S : am_St} : ∀ m b q, sPf S b (q / sB S ^ m) = none → sPf S (b + m) q = none
  | 0, b, q, h => by rwa [Nat.pow_zero, Nat.div_one] at h
  | m + 1, b, q, h => by
    have h1 := sPf_none m b (q / sB S) (by rw [Nat.div_div_eq_div_mul, ← Nat.pow_succ']; exact h)
    show sPf S (b + m + 1) q = none
    rw [sPf, h1]
theorem fd_id {α : Type} {f : Nat → α → α} : ∀ n i a, (∀ j, j < n → ∀ x, f (i + j) x = x) → am_fd f i n a = a
  | 0, _, _, _ => rfl
  | n + 1, i, a, h => by
    show am_fd f (i + 1) n (f i a) = a
    have h0 := h 0 (by omega) a
    rw [Nat.add_zero] at h0
    rw [h0]
    exact fd_id n (i + 1) a fun j hj x => by
      have h1 := h (j + 1) (by omega) x
      rw [show i + 1 + j = i + (j + 1) by omega]
      exact h1
theorem fd_add {α : Type} (f : Nat → α → α) : ∀ n1 n2 i a, am_fd f i (n1 + n2) a = am_fd f (i + n1) n2 (am_fd f i n1 a)
  | 0, n2, i, a => by rw [Nat.zero_add]; rfl
  | n1 + 1, n2, i, a => by
    rw [show n1 + 1 + n2 = (n1 + n2) + 1 by omega]
    show am_fd f (i + 1) (n1 + n2) (f i a) = am_fd f (i + (n1 + 1)) n2 (am_fd f (i + 1) n1 (f i a))
    rw [fd_add f n1 n2 (i + 1) (f i a), show i + 1 + n1 = i + (n1 + 1) by omega]
theorem sEv_blk {S : am_St} {b m p : Nat} (h : sPf S b p = none) (hm : b + m = 4) (a : Nat × Nat × Nat) : am_fd (sEv S) (p * sB S ^ m) (sB S ^ m) a = a := by
  refine fd_id _ _ _ fun j hj x => ?_
  have h1 := sPf_none (S := S) m b (p * sB S ^ m + j) (by rw [(dv_g (Nat.pow_pos (sB_pos S)) hj).1]; exact h)
  rw [hm] at h1
  unfold sEv
  rw [h1]
theorem sCh_le {S : am_St} {N b g : Nat} (hO : sOK N S) (hb : b < 4) : sCh S b g ≤ 1261 := by
  have := sPy_le (g := g) hO hb
  unfold sCh
  split <;> omega
theorem sPf_le {S : am_St} {N : Nat} (hO : sOK N S) : ∀ b p q, b ≤ 4 → sPf S b p = some q → q.1 < 16 ∧ q.2.1 ≤ b ∧ q.2.2 ≤ 1300 * b
  | 0, p, q, _, h => by
    rw [sPf] at h
    cases h
    exact ⟨by decide, by decide, by decide⟩
  | b + 1, p, q, hb, h => by
    rw [sPf] at h
    cases h1 : sPf S b (p / sB S) with
    | none => rw [h1] at h; cases h
    | some q' =>
      rw [h1] at h
      dsimp only at h
      obtain ⟨i1, i2, i3⟩ := sPf_le hO b _ q' (by omega) h1
      have hG := sO_G hO
      have hm : p % sB S < sB S := Nat.mod_lt _ (sB_pos S)
      have hbb : sB S = S 4 0 0 + 1 := rfl
      split at h
      · cases h
        exact ⟨i1, by omega, by omega⟩
      · split at h
        · cases h
        · rename_i _ hx
          cases h
          have hc := sCh_le (g := p % sB S - 1) hO (show b < 4 by omega)
          have hd : ∀ u, u < 16 → ∀ g, g < 4 → ¬ u / 2 ^ g % 2 = 1 → u + 2 ^ g < 16 := by decide +kernel
          refine ⟨hd _ i1 _ (by omega) (fun q => hx (Or.inl q)), ?_, ?_⟩ <;> dsimp only <;> omega
theorem wM_lt {a s : Nat} (ha : a < 100000) (hs : s < 100000) : (wM a < nI s) = (a < s + 1) := by
  unfold wM
  by_cases h : a = 0
  · rw [if_pos h]
    apply propext
    rw [Int32.lt_iff_toInt_lt, nI_toInt (by omega), show (-1 : Int32).toInt = -1 by decide]
    omega
  · rw [if_neg h, nI_LT (by omega) (by omega)]
    apply propext
    omega
theorem wM_eq {a s : Nat} (ha : a < 100000) (hs : s < 100000) : (nI s = wM a) = (a = s + 1) := by
  unfold wM
  by_cases h : a = 0
  · rw [if_pos h, nI_m1 (by omega)]
    apply propext
    constructor
    · exact False.elim
    · omega
  · rw [if_neg h, nI_EQ (by omega) (by omega)]
    apply propext
    omega
theorem wM_m1 {a : Nat} (ha : a < 100000) : (wM a = -1) = (a = 0) := by
  unfold wM
  by_cases h : a = 0
  · rw [if_pos h]; simp [h]
  · rw [if_neg h, nI_m1 (by omega)]; simp [h]
theorem am_pr.wC {P : Nat → Nat → Bool} {σ σ1 : am_M} {a b i j n : Nat} (h1 : am_pr P σ σ1) (h : ∀ k, P b k = false) : am_pr P σ (am_wC σ1 a b i j n) := ⟨h1.1, fun o k q => by
  rw [am_I_wC, if_neg (fun e => by rw [e.1, h] at q; cases q)]
  exact h1.2.1 o k q, h1.2.2⟩
/-! the class' own way: all ways to the base 5, the last book's digit first -/
def sCg (S : am_St) (b g : Nat) : Nat := if g < S 4 0 0 then sCh S b g else 0
def d5 (w j : Nat) : Nat := w / 5 ^ (3 - j) % 5
def sSp (S : am_St) (o : Option (Nat × Nat × Nat)) (x b : Nat) : Option (Nat × Nat × Nat) := match o with
  | none => none
  | some q => if x = 0 then some q else if q.1 / 2 ^ (x - 1) % 2 = 1 ∨ sCg S b (x - 1) = 0 then none else some (q.1 + 2 ^ (x - 1), q.2.1 + 1, q.2.2 + (sCg S b (x - 1) - 1))
def tS (S : am_St) (w : Nat) : Nat → Option (Nat × Nat × Nat)
  | 0 => some (0, 0, 0)
  | k + 1 => sSp S (tS S w k) (w / 5 ^ k % 5) (3 - k)
def sE5 (S : am_St) (w : Nat) (a : Nat × Nat × Nat) : Nat × Nat × Nat := match tS S w 4 with
  | none => a
  | some q => sBt a q.2.1 q.2.2 w
theorem tS_none {S : am_St} {w k : Nat} (h : tS S w k = none) : ∀ m, tS S w (k + m) = none
  | 0 => h
  | m + 1 => by
    show sSp S (tS S w (k + m)) _ _ = none
    rw [tS_none h m]
    rfl
theorem sCg_le {S : am_St} {N b g : Nat} (hO : sOK N S) (hb : b < 4) : sCg S b g ≤ 1261 := by
  have := sCh_le (g := g) hO hb
  unfold sCg
  split <;> omega
theorem b_or16 : ∀ u, u < 16 → ∀ g, g < 4 → ¬ u / 2 ^ g % 2 = 1 → u + 2 ^ g < 16 := by decide +kernel
theorem tS_le {S : am_St} {N w : Nat} (hO : sOK N S) : ∀ k q, k ≤ 4 → tS S w k = some q → q.1 < 16 ∧ q.2.1 ≤ k ∧ q.2.2 ≤ 1300 * k
  | 0, q, _, h => by
    cases h
    exact ⟨by decide, by decide, by decide⟩
  | k + 1, q, hk, h => by
    have h : sSp S (tS S w k) (w / 5 ^ k % 5) (3 - k) = some q := h
    cases h1 : tS S w k with
    | none => rw [h1] at h; cases h
    | some q' =>
      rw [h1] at h
      obtain ⟨i1, i2, i3⟩ := tS_le hO k q' (by omega) h1
      have hx : w / 5 ^ k % 5 < 5 := Nat.mod_lt _ (by decide)
      unfold sSp at h
      dsimp only at h
      split at h
      · cases h
        exact ⟨i1, by omega, by omega⟩
      · split at h
        · cases h
        · rename_i _ hq
          cases h
          have hc := sCg_le (g := w / 5 ^ k % 5 - 1) hO (show 3 - k < 4 by omega)
          refine ⟨b_or16 _ i1 _ (by omega) (fun q => hq (Or.inl q)), ?_, ?_⟩ <;> dsimp only <;> omega
theorem wM_s (n : Nat) : wM (n + 1) = nI n := if_neg (by omega)
theorem wM_p : ∀ n, nI n + (-1) = wM n
  | 0 => by decide +kernel
  | n + 1 => by rw [nI_pm, wM_s]
theorem wM_n : ∀ x, x < 5 → nI x - nI 1 = wM x := by decide +kernel
/-! the ways that are rows -/
def sPh (B : Nat) : Nat → Nat → Nat
  | 0, _ => 0
  | m + 1, r => sPh B m (r / B) * 5 + r % B
theorem sPh_d {B : Nat} (hB : 0 < B) (hB5 : B ≤ 5) : ∀ i m r, i < m → sPh B m r / 5 ^ i % 5 = r / B ^ i % B
  | 0, 0, _, h => absurd h (by omega)
  | 0, m + 1, r, _ => by
    have h1 : r % B < B := Nat.mod_lt _ hB
    rw [Nat.pow_zero, Nat.div_one, Nat.pow_zero, Nat.div_one, sPh]
    omega
  | i + 1, 0, _, h => absurd h (by omega)
  | i + 1, m + 1, r, h => by
    have h1 : r % B < 5 := Nat.lt_of_lt_of_le (Nat.mod_lt _ hB) hB5
    rw [Nat.pow_succ', Nat.pow_succ', ← Nat.div_div_eq_div_mul, ← Nat.div_div_eq_div_mul, sPh, (dv_g (by decide) h1).1]
    exact sPh_d hB hB5 i m (r / B) (by omega)
theorem sPh_s {B m p g : Nat} (hB : 0 < B) (hg : g < B) : sPh B (m + 1) (p * B + g) = sPh B m p * 5 + g := by
  rw [sPh, (dv_g hB hg).1, (dv_g hB hg).2]
theorem fd_5 {α : Type} {f : Nat → α → α} {B : Nat} (hB : 0 < B) (hB5 : B ≤ 5) (hid : ∀ w, (∃ i, i < 4 ∧ B ≤ w / 5 ^ i % 5) → ∀ x, f w x = x) : ∀ k m p a, m + k = 4 → am_fd f (sPh B m p * 5 ^ k) (5 ^ k) a = am_fd (fun r => f (sPh B 4 r)) (p * B ^ k) (B ^ k) a
  | 0, m, p, a, h => by
    have h : m = 4 := by omega
    subst h
    rw [Nat.pow_zero, Nat.mul_one, Nat.pow_zero, Nat.mul_one]
    rfl
  | k + 1, m, p, a, h => by
    have blk : ∀ n g a, g + n = B → am_fd f ((sPh B m p * 5 + g) * 5 ^ k) (n * 5 ^ k) a = am_fd (fun r => f (sPh B 4 r)) ((p * B + g) * B ^ k) (n * B ^ k) a := by
      intro n
      induction n with
      | zero => intro g a _; rw [Nat.zero_mul, Nat.zero_mul]; rfl
      | succ n ih =>
        intro g a hg
        have e1 := fd_5 hB hB5 hid k (m + 1) (p * B + g) a (by omega)
        rw [sPh_s hB (by omega)] at e1
        have e2 := ih (g + 1) (am_fd f ((sPh B m p * 5 + g) * 5 ^ k) (5 ^ k) a) (by omega)
        rw [Nat.succ_mul, Nat.succ_mul, Nat.add_comm (n * 5 ^ k), Nat.add_comm (n * B ^ k), fd_add, fd_add, ← Nat.succ_mul, ← Nat.succ_mul, ← e1]
        exact e2
    have tl : ∀ a, am_fd f ((sPh B m p * 5 + B) * 5 ^ k) ((5 - B) * 5 ^ k) a = a := fun a => by
      refine fd_id _ _ _ fun j hj x => hid _ ⟨k, by omega, ?_⟩ x
      have h5 : 0 < 5 ^ k := Nat.pow_pos (by decide)
      have hq : j / 5 ^ k < 5 - B := (Nat.div_lt_iff_lt_mul h5).mpr hj
      rw [Nat.add_comm, Nat.add_mul_div_right _ _ h5]
      generalize j / 5 ^ k = q at hq ⊢
      generalize sPh B m p = y
      omega
    have e := blk B 0 a (by omega)
    rw [Nat.add_zero, Nat.add_zero] at e
    have e5 : 5 ^ (k + 1) = B * 5 ^ k + (5 - B) * 5 ^ k := by
      rw [← Nat.add_mul, show B + (5 - B) = 5 by omega, Nat.pow_succ']
    have eb : (sPh B m p * 5) * 5 ^ k + B * 5 ^ k = (sPh B m p * 5 + B) * 5 ^ k := (Nat.add_mul _ _ _).symm
    rw [show sPh B m p * 5 ^ (k + 1) = (sPh B m p * 5) * 5 ^ k by rw [Nat.mul_assoc, ← Nat.pow_succ'], e5, fd_add, e, eb, tl, Nat.pow_succ', Nat.mul_assoc]
theorem sE5_id {S : am_St} {w : Nat} (h : ∃ i, i < 4 ∧ sB S ≤ w / 5 ^ i % 5) (x : Nat × Nat × Nat) : sE5 S w x = x := by
  obtain ⟨i, hi, hd⟩ := h
  have hBB : sB S = S 4 0 0 + 1 := rfl
  have h1 : tS S w (i + 1) = none := by
    show sSp S (tS S w i) (w / 5 ^ i % 5) (3 - i) = none
    cases tS S w i with
    | none => rfl
    | some q =>
      have x0 : ¬ w / 5 ^ i % 5 = 0 := by
        generalize w / 5 ^ i % 5 = x at hd ⊢
        omega
      have e : sCg S (3 - i) (w / 5 ^ i % 5 - 1) = 0 := by
        unfold sCg
        generalize w / 5 ^ i % 5 = x at hd x0 ⊢
        exact if_neg (by omega)
      unfold sSp
      dsimp only
      rw [if_neg x0, if_pos (Or.inr e)]
  have h2 := tS_none h1 (3 - i)
  rw [show i + 1 + (3 - i) = 4 by omega] at h2
  unfold sE5
  rw [h2]
/-! the order of the books is free -/
def sGd (o : Option (Nat × Nat × Nat)) : Prop := ∀ q, o = some q → q.1 < 16
theorem sSp_g {S : am_St} {o : Option (Nat × Nat × Nat)} {x b : Nat} (h : sGd o) (hx : x < 5) : sGd (sSp S o x b) := by
  intro q hq
  unfold sSp at hq
  cases o with
  | none => cases hq
  | some q' =>
    have h1 := h q' rfl
    dsimp only at hq
    split at hq
    · cases hq; exact h1
    · split at hq
      · cases hq
      · rename_i _ hn
        cases hq
        exact b_or16 _ h1 _ (by omega) (fun q => hn (Or.inl q))
theorem b_two0 : ∀ u, u < 16 → ∀ g, g < 4 → (u / 2 ^ g % 2 = 1 ∨ ∀ g', g' < 4 → ((u + 2 ^ g) / 2 ^ g' % 2 = 1 ↔ (g = g' ∨ u / 2 ^ g' % 2 = 1))) := by decide +kernel
theorem b_two (u : Nat) (hu : u < 16) (g : Nat) (hg : g < 4) (g' : Nat) (hg' : g' < 4) (h : ¬ u / 2 ^ g % 2 = 1) : (u + 2 ^ g) / 2 ^ g' % 2 = 1 ↔ (g = g' ∨ u / 2 ^ g' % 2 = 1) := by
  rcases b_two0 u hu g hg with q | q
  · exact absurd q h
  · exact q g' hg'
theorem sSp_n {S : am_St} {x b : Nat} : sSp S none x b = none := rfl
theorem sSp_z {S : am_St} {o : Option (Nat × Nat × Nat)} {b : Nat} : sSp S o 0 b = o := by
  cases o with
  | none => rfl
  | some q => rfl
theorem sSp_b {S : am_St} {q : Nat × Nat × Nat} {x b : Nat} (hx : ¬ x = 0) (h : q.1 / 2 ^ (x - 1) % 2 = 1 ∨ sCg S b (x - 1) = 0) : sSp S (some q) x b = none := by
  unfold sSp
  dsimp only
  rw [if_neg hx, if_pos h]
theorem sSp_y {S : am_St} {q : Nat × Nat × Nat} {x b : Nat} (hx : ¬ x = 0) (h : ¬ (q.1 / 2 ^ (x - 1) % 2 = 1 ∨ sCg S b (x - 1) = 0)) : sSp S (some q) x b = some (q.1 + 2 ^ (x - 1), q.2.1 + 1, q.2.2 + (sCg S b (x - 1) - 1)) := by
  unfold sSp
  dsimp only
  rw [if_neg hx, if_neg h]
theorem sSp_c {S : am_St} {o : Option (Nat × Nat × Nat)} {x y b b' : Nat} (h : sGd o) (hx : x < 5) (hy : y < 5) : sSp S (sSp S o x b) y b' = sSp S (sSp S o y b') x b := by
  by_cases x0 : x = 0
  · subst x0; rw [sSp_z, sSp_z]
  by_cases y0 : y = 0
  · subst y0; rw [sSp_z, sSp_z]
  cases o with
  | none => rfl
  | some q =>
    have hu := h q rfl
    by_cases P : q.1 / 2 ^ (x - 1) % 2 = 1 ∨ sCg S b (x - 1) = 0
    · rw [sSp_b x0 P, sSp_n]
      by_cases Q : q.1 / 2 ^ (y - 1) % 2 = 1 ∨ sCg S b' (y - 1) = 0
      · rw [sSp_b y0 Q, sSp_n]
      · rw [sSp_y y0 Q, sSp_b x0]
        rcases P with P | P
        · exact Or.inl ((b_two _ hu _ (by omega) _ (by omega) (fun q => Q (Or.inl q))).mpr (Or.inr P))
        · exact Or.inr P
    · have tx := b_two _ hu (x - 1) (by omega) (y - 1) (by omega) (fun q => P (Or.inl q))
      rw [sSp_y x0 P]
      by_cases Q : q.1 / 2 ^ (y - 1) % 2 = 1 ∨ sCg S b' (y - 1) = 0
      · rw [sSp_b y0 Q, sSp_n, sSp_b y0]
        rcases Q with Q | Q
        · exact Or.inl (tx.mpr (Or.inr Q))
        · exact Or.inr Q
      · have ty := b_two _ hu (y - 1) (by omega) (x - 1) (by omega) (fun q => Q (Or.inl q))
        rw [sSp_y y0 Q]
        by_cases e : x = y
        · rw [sSp_b y0 (Or.inl (tx.mpr (Or.inl (by omega)))), sSp_b x0 (Or.inl (ty.mpr (Or.inl (by omega))))]
        · rw [sSp_y y0 (by
            rintro (q1 | q1)
            · rcases tx.mp q1 with q2 | q2
              · omega
              · exact Q (Or.inl q2)
            · exact Q (Or.inr q1)), sSp_y x0 (by
            rintro (q1 | q1)
            · rcases ty.mp q1 with q2 | q2
              · omega
              · exact P (Or.inl q2)
            · exact P (Or.inr q1))]
          dsimp only
          rw [Nat.add_right_comm q.1, Nat.add_right_comm q.2.2]
theorem sPf_sp {S : am_St} {b p : Nat} : sPf S (b + 1) p = sSp S (sPf S b (p / sB S)) (p % sB S) b := by
  rw [sPf]
  unfold sSp
  have hBB : sB S = S 4 0 0 + 1 := rfl
  have hm : p % sB S < sB S := Nat.mod_lt _ (sB_pos S)
  cases sPf S b (p / sB S) with
  | none => rfl
  | some q =>
    dsimp only
    by_cases x0 : p % sB S = 0
    · rw [if_pos x0, if_pos x0]
    · have e : sCg S b (p % sB S - 1) = sCh S b (p % sB S - 1) := if_pos (by omega)
      rw [if_neg x0, if_neg x0, e]
theorem tS_Pf {S : am_St} {r : Nat} (hB5 : sB S ≤ 5) : tS S (sPh (sB S) 4 r) 4 = sPf S 4 r := by
  have hB := sB_pos S
  have D : ∀ i, i < 4 → sPh (sB S) 4 r / 5 ^ i % 5 = r / sB S ^ i % sB S := fun i hi => sPh_d hB hB5 i 4 r hi
  have L : ∀ i, r / sB S ^ i % sB S < 5 := fun i => Nat.lt_of_lt_of_le (Nat.mod_lt _ hB) hB5
  have e1 : sPf S 4 r = sSp S (sSp S (sSp S (sSp S (some (0, 0, 0)) (r / sB S ^ 3 % sB S) 0) (r / sB S ^ 2 % sB S) 1) (r / sB S ^ 1 % sB S) 2) (r / sB S ^ 0 % sB S) 3 := by
    have q2 : r / sB S / sB S = r / sB S ^ 2 := by rw [Nat.div_div_eq_div_mul, Nat.pow_succ, Nat.pow_one]
    have q3 : r / sB S / sB S / sB S = r / sB S ^ 3 := by rw [q2, Nat.div_div_eq_div_mul, ← Nat.pow_succ]
    rw [Nat.pow_zero, Nat.div_one, Nat.pow_one, ← q3, ← q2, sPf_sp, sPf_sp, sPf_sp, sPf_sp]
    rfl
  have e2 : tS S (sPh (sB S) 4 r) 4 = sSp S (sSp S (sSp S (sSp S (some (0, 0, 0)) (r / sB S ^ 0 % sB S) 3) (r / sB S ^ 1 % sB S) 2) (r / sB S ^ 2 % sB S) 1) (r / sB S ^ 3 % sB S) 0 := by
    show sSp S (sSp S (sSp S (sSp S (some (0, 0, 0)) _ 3) _ 2) _ 1) _ 0 = _
    rw [D 0 (by decide), D 1 (by decide), D 2 (by decide), D 3 (by decide)]
  have g0 : sGd (some (0, 0, 0)) := fun q h => by cases h; decide
  have l0 := L 0
  have l1 := L 1
  have l2 := L 2
  have l3 := L 3
  rw [e1, e2]
  generalize r / sB S ^ 0 % sB S = x3 at *
  generalize r / sB S ^ 1 % sB S = x2 at *
  generalize r / sB S ^ 2 % sB S = x1 at *
  generalize r / sB S ^ 3 % sB S = x0 at *
  rw [sSp_c (x := x3) (y := x2) g0 l0 l1, sSp_c (x := x3) (y := x1) (sSp_g g0 l1) l0 l2, sSp_c (x := x3) (y := x0) (sSp_g (sSp_g g0 l1) l2) l0 l3, sSp_c (x := x2) (y := x1) g0 l1 l2, sSp_c (x := x2) (y := x0) (sSp_g g0 l2) l1 l3, sSp_c (x := x1) (y := x0) g0 l2 l3]
/-- the same best one, told to another base -/
def sRl (S : am_St) (a5 a : Nat × Nat × Nat) : Prop := a5.1 = a.1 ∧ a5.2.1 = a.2.1 ∧ (0 < a.1 → ∀ j, j < 4 → d5 a5.2.2 j = sD S a.2.2 j)
theorem sRl_s {S : am_St} {r : Nat} {a5 a : Nat × Nat × Nat} (hB5 : sB S ≤ 5) (h : sRl S a5 a) : sRl S (sE5 S (sPh (sB S) 4 r) a5) (sEv S r a) := by
  obtain ⟨h1, h2, h3⟩ := h
  unfold sE5 sEv
  rw [tS_Pf hB5]
  cases sPf S 4 r with
  | none => exact ⟨h1, h2, h3⟩
  | some q =>
    dsimp only
    unfold sBt
    rw [h1, h2]
    by_cases c : a.1 < q.2.1 + 1 ∨ (a.1 = q.2.1 + 1 ∧ q.2.2 < a.2.1)
    · rw [if_pos c, if_pos c]
      exact ⟨rfl, rfl, fun _ j hj => sPh_d (sB_pos S) hB5 (3 - j) 4 r (by omega)⟩
    · rw [if_neg c, if_neg c]
      exact ⟨h1, h2, h3⟩
theorem sRl_f {S : am_St} (hB5 : sB S ≤ 5) : ∀ n i (a5 a : Nat × Nat × Nat), sRl S a5 a → sRl S (am_fd (fun r => sE5 S (sPh (sB S) 4 r)) i n a5) (am_fd (sEv S) i n a)
  | 0, _, _, _, h => h
  | n + 1, i, a5, a, h => sRl_f hB5 n (i + 1) _ _ (sRl_s hB5 h)
theorem sRl_all {S : am_St} {N : Nat} (hO : sOK N S) (a5 a : Nat × Nat × Nat) (h : sRl S a5 a) : sRl S (am_fd (sE5 S) 0 625 a5) (am_fd (sEv S) 0 (sB S ^ 4) a) := by
  have hG := sO_G hO
  have hBB : sB S = S 4 0 0 + 1 := rfl
  have hB5 : sB S ≤ 5 := by omega
  have e := fd_5 (f := sE5 S) (sB_pos S) hB5 (fun w hw x => sE5_id hw x) 4 0 0 a5 (by omega)
  rw [show sPh (sB S) 0 0 = 0 from rfl, Nat.zero_mul, Nat.zero_mul] at e
  rw [show 625 = 5 ^ 4 from rfl, e]
  exact sRl_f hB5 _ 0 a5 a h
section SE
variable {X : am_X} {d N : Nat} {σ σ0 : am_M} {S : am_St} {a : Nat × Nat × Nat}
/-- the class' plan, under way -/
def pRp (S : am_St) (σ0 σ : am_M) (a : Nat × Nat × Nat) : Prop := am_pr nsB σ0 σ ∧ (∀ b g, b < 4 → g < 4 → am_I σ (59 + b) g = wM (sCg S b g)) ∧ (am_I σ 57 3 = wM a.1 ∧ am_I σ 57 4 = nI a.2.1 ∧ (0 < a.1 → ∀ j, j < 4 → am_I σ 64 j = wM (d5 a.2.2 j))) ∧ a.1 ≤ 5 ∧ a.2.1 ≤ 10000
theorem nI_c0 : (nI 0).toNatClampNeg = 0 := by decide +kernel
theorem nI_c4 : (nI 4).toNatClampNeg = 4 := by decide +kernel
theorem m30 {s c w : Nat} (h : pRp S σ0 σ a) (ht : ∀ j, j < 4 → am_I σ 63 j = wM (d5 w j)) (hs : s ≤ 4) (hc : c ≤ 10000) : ∃ σ', am_v X (d + 1) 30 [.ref (57 : Nat), .int (nI s), .int (nI c)] σ = some (none, σ') ∧ pRp S σ0 σ' (sBt a s c w) := by
  obtain ⟨hp, hc4, ⟨h4, h5, h6⟩, b1, b2⟩ := h
  have hF := hp.1
  have q1 : (wM a.1 < nI s) = (a.1 < s + 1) := wM_lt (by omega) (by omega)
  have q2 : (nI s = wM a.1) = (a.1 = s + 1) := wM_eq (by omega) (by omega)
  have q3 : (nI a.2.1 ≤ nI c) = (a.2.1 ≤ c) := nI_LE (by omega) (by omega)
  rw [s30]
  unfold sBt
  by_cases c1 : a.1 < s + 1 ∨ (a.1 = s + 1 ∧ c < a.2.1)
  · rw [if_pos c1]
    have hF2 : am_F (am_wI (am_wI σ 57 3 (nI s)) 57 4 (nI c)) := hF
    have e45 := s30_45 (X := X) (d := d) (L := [some (.ref (57 : Nat)), some (.int (nI s)), some (.int (nI c))]) (a := 63) (b := 64) (i := nI 0) (j := nI 0) (n := nI 4) (σ := am_wI (am_wI σ 57 3 (nI s)) 57 4 (nI c)) ⟨kd63 hF2, kd64 hF2, Or.inl rfl, by decide +kernel, by decide +kernel, by decide +kernel, by rw [ln63 hF2, nI_c0, nI_c4]; decide, by rw [ln64 hF2, nI_c0, nI_c4]; decide⟩
    rw [nI_c0, nI_c4] at e45
    refine ⟨am_wC (am_wI (am_wI σ 57 3 (nI s)) 57 4 (nI c)) 63 64 0 0 4, ?_, ((hp.w (by rfl)).w (by rfl)).wC (fun k => by rfl), ?_, ⟨?_, ?_, ?_⟩, ?_, ?_⟩
    · rcases c1 with c1 | ⟨c1, c2⟩
      · simp only [s30_0, s30_1, s30_2, s30_5, s30_8, s30_9, s30_10, s30_13, s30_16, s30_17, s30_18, s30_21, s30_24, s30_25, s30_26, s30_29, s30_30, s30_31, s30_34, s30_35, s30_38, s30_39, s30_40, s30_43, s30_44, s30_48, e45, am_pu_s, am_pu_n, va_rf_s, va_rf_n, Option.bind_some, true_or, or_true, eq_self, if_true, if_false, ite_self, ite_true, ite_false, ↓reduceIte, reduceCtorEq, Nat.reduceEqDiff, Nat.reduceAdd, Nat.reduceLT, Nat.reduceLeDiff, Nat.reduceMul, Nat.reduceSub, not_true_eq_false, not_false_eq_true, and_self, and_true, true_and, and_false, false_and, am_I_wI, am_I_wJ, am_J_wI, am_J_wJ, am_R_wI, am_R_wJ, am_kd_wI, am_kd_wJ, am_ln_wI, am_ln_wJ, am_ix_wI, am_ix_wJ, am_F_wI, am_F_wJ, am_I_wC, am_J_wC, am_R_wC, am_kd_wC, am_ln_wC, am_ix_wC, am_F_wC, hF, kd57, rr57_1, rr57_2, h4, h5, q1, c1]
      · have c3 : ¬ a.1 < s + 1 := by omega
        have c4 : ¬ a.2.1 ≤ c := by omega
        have c5 : ¬ wM a.1 < nI s := by rw [q1]; exact c3
        have c6 : (nI s = wM a.1) = True := by rw [q2]; exact eq_true c1
        simp only [s30_0, s30_1, s30_2, s30_5, s30_8, s30_9, s30_10, s30_13, s30_16, s30_17, s30_18, s30_21, s30_24, s30_25, s30_26, s30_29, s30_30, s30_31, s30_34, s30_35, s30_38, s30_39, s30_40, s30_43, s30_44, s30_48, e45, am_pu_s, am_pu_n, va_rf_s, va_rf_n, Option.bind_some, true_or, or_true, eq_self, if_true, if_false, ite_self, ite_true, ite_false, ↓reduceIte, reduceCtorEq, Nat.reduceEqDiff, Nat.reduceAdd, Nat.reduceLT, Nat.reduceLeDiff, Nat.reduceMul, Nat.reduceSub, not_true_eq_false, not_false_eq_true, and_self, and_true, true_and, and_false, false_and, am_I_wI, am_I_wJ, am_J_wI, am_J_wJ, am_R_wI, am_R_wJ, am_kd_wI, am_kd_wJ, am_ln_wI, am_ln_wJ, am_ix_wI, am_ix_wJ, am_F_wI, am_F_wJ, am_I_wC, am_J_wC, am_R_wC, am_kd_wC, am_ln_wC, am_ix_wC, am_F_wC, hF, kd57, rr57_1, rr57_2, h4, h5, c5, c6, q3, c4]
    · intro b g hb hg
      rw [am_I_wC, if_neg (by omega), am_I_wI, if_neg (by omega), am_I_wI, if_neg (by omega), hc4 b g hb hg]
    · rw [am_I_wC, if_neg (by omega), am_I_wI, if_neg (by omega), am_I_wI, if_pos ⟨rfl, rfl⟩]
      exact (if_neg (by omega)).symm
    · rw [am_I_wC, if_neg (by omega), am_I_wI, if_pos ⟨rfl, rfl⟩]
    · intro _ j hj
      rw [am_I_wC, if_pos ⟨rfl, by omega, by omega⟩, Nat.zero_add, Nat.sub_zero, am_I_wI, if_neg (by omega), am_I_wI, if_neg (by omega), ht j hj]
    · show s + 1 ≤ 5
      omega
    · exact hc
  · rw [if_neg c1]
    refine ⟨σ, ?_, hp, hc4, ⟨h4, h5, h6⟩, b1, b2⟩
    have c2 : ¬ a.1 < s + 1 := fun q => c1 (Or.inl q)
    by_cases c3 : a.1 = s + 1
    · have c4 : a.2.1 ≤ c := Nat.le_of_not_lt fun q => c1 (Or.inr ⟨c3, q⟩)
      have c5 : ¬ wM a.1 < nI s := by rw [q1]; exact c2
      have c6 : (nI s = wM a.1) = True := by rw [q2]; exact eq_true c3
      simp only [s30_0, s30_1, s30_2, s30_5, s30_8, s30_9, s30_10, s30_13, s30_16, s30_17, s30_18, s30_21, s30_24, s30_25, s30_26, s30_29, s30_30, s30_31, s30_34, s30_35, s30_38, s30_39, s30_40, s30_43, s30_44, s30_48, am_pu_s, am_pu_n, va_rf_s, va_rf_n, Option.bind_some, true_or, or_true, eq_self, if_true, if_false, ite_self, ite_true, ite_false, ↓reduceIte, reduceCtorEq, Nat.reduceEqDiff, Nat.reduceAdd, Nat.reduceLT, Nat.reduceLeDiff, Nat.reduceMul, Nat.reduceSub, not_true_eq_false, not_false_eq_true, and_self, and_true, true_and, and_false, false_and, am_I_wI, am_I_wJ, am_J_wI, am_J_wJ, am_R_wI, am_R_wJ, am_kd_wI, am_kd_wJ, am_ln_wI, am_ln_wJ, am_ix_wI, am_ix_wJ, am_F_wI, am_F_wJ, am_I_wC, am_J_wC, am_R_wC, am_kd_wC, am_ln_wC, am_ix_wC, am_F_wC, hF, kd57, h4, h5, c5, c6, q3, c4]
    · simp only [s30_0, s30_1, s30_2, s30_5, s30_8, s30_9, s30_10, s30_13, s30_16, s30_17, s30_18, s30_21, s30_24, s30_25, s30_26, s30_29, s30_30, s30_31, s30_34, s30_35, s30_38, s30_39, s30_40, s30_43, s30_44, s30_48, am_pu_s, am_pu_n, va_rf_s, va_rf_n, Option.bind_some, true_or, or_true, eq_self, if_true, if_false, ite_self, ite_true, ite_false, ↓reduceIte, reduceCtorEq, Nat.reduceEqDiff, Nat.reduceAdd, Nat.reduceLT, Nat.reduceLeDiff, Nat.reduceMul, Nat.reduceSub, not_true_eq_false, not_false_eq_true, and_self, and_true, true_and, and_false, false_and, am_I_wI, am_I_wJ, am_J_wI, am_J_wJ, am_R_wI, am_R_wJ, am_kd_wI, am_kd_wJ, am_ln_wI, am_ln_wJ, am_ix_wI, am_ix_wJ, am_F_wI, am_F_wJ, am_I_wC, am_J_wC, am_R_wC, am_kd_wC, am_ln_wC, am_ix_wC, am_F_wC, hF, kd57, h4, h5, q1, q2, c2, c3]
theorem rCh {b : Nat} (h : am_F σ) (hb : b < 4) : am_R σ 58 b = some (59 + b) := by
  have : b = 0 ∨ b = 1 ∨ b = 2 ∨ b = 3 := by omega
  rcases this with rfl | rfl | rfl | rfl
  · exact rr58_0 h
  · exact rr58_1 h
  · exact rr58_2 h
  · exact rr58_3 h
theorem ixCh {b g : Nat} (h : am_F σ) (hb : b < 4) (hg : g < 4) : am_ix σ 20 (59 + b) (nI g) = true := by
  have : b = 0 ∨ b = 1 ∨ b = 2 ∨ b = 3 := by omega
  rcases this with rfl | rfl | rfl | rfl
  · exact ix59 h hg
  · exact ix60 h hg
  · exact ix61 h hg
  · exact ix62 h hg
theorem b_shr : ∀ u, u < 16 → ∀ g, g < 4 → nI u >>> (nI g &&& 31) &&& nI 1 = nI (u / 2 ^ g % 2) := by decide +kernel
theorem b_or : ∀ u, u < 16 → ∀ g, g < 4 → ¬ u / 2 ^ g % 2 = 1 → nI u ||| nI 1 <<< (nI g &&& 31) = nI (u + 2 ^ g) := by decide +kernel
theorem pRp_w63 {b : Nat} {v : Int32} (h : pRp S σ0 σ a) (hb : b < 4) : pRp S σ0 (am_wI σ 63 b v) a := by
  obtain ⟨hp, hc4, ⟨h4, h5, h6⟩, b1, b2⟩ := h
  refine ⟨hp.w (by rfl), ?_, ⟨?_, ?_, ?_⟩, b1, b2⟩
  · intro b g hb hg
    rw [am_I_wI, if_neg (by omega), hc4 b g hb hg]
  · rw [am_I_wI, if_neg (by omega), h4]
  · rw [am_I_wI, if_neg (by omega), h5]
  · intro h0 j hj
    rw [am_I_wI, if_neg (by omega), h6 h0 j hj]
theorem m29 (hO : sOK N S) {w : Nat} (hw : w < 625) (h : pRp S σ0 σ a) : ∃ σ', am_v X (d + 2) 29 [.ref (57 : Nat), .int (nI w)] σ = some (none, σ') ∧ pRp S σ0 σ' (sE5 S w a) := by
  have h50 : ¬ nI 5 = nI 0 := by decide +kernel
  have loop : ∀ n k v u s c σ1 l7, k + n = 4 → v = w / 5 ^ k → tS S w k = some (u, s, c) → pRp S σ0 σ1 a → (∀ j, 4 - k ≤ j → j < 4 → am_I σ1 63 j = wM (d5 w j)) → ∃ σ', am_w X (d + 1) 29 13 [some (.ref (57 : Nat)), some (.int (nI w)), some (.int (nI v)), some (.int (nI u)), some (.int (nI s)), some (.int (nI c)), some (.int (wM (4 - k))), l7] [] σ1 = some (none, σ') ∧ pRp S σ0 σ' (sE5 S w a) := by
    intro n
    induction n with
    | zero =>
      intro k v u s c σ1 l7 hk hv hq h ht
      have hk : k = 4 := by omega
      subst hk
      obtain ⟨i1, i2, i3⟩ := tS_le hO 4 _ (by omega) hq
      dsimp only at i1 i2 i3
      obtain ⟨σ', r1, r2⟩ := m30 (X := X) (d := d) (s := s) (c := c) (w := w) h (fun j hj => ht j (by omega) hj) i2 (by omega)
      refine ⟨σ', ?_, ?_⟩
      · have c1 : wM (4 - 4) < nI 0 := by decide +kernel
        have c1' : (wM 0 < nI 0) = True := by decide +kernel
        rw [s29_13]
        simp only [s29_15, s29_98, s29_99, s29_101, s29_103, s29_106, am_pu_s, am_pu_n, va_rf_s, va_rf_n, Option.bind_some, true_or, or_true, eq_self, if_true, if_false, ite_self, ite_true, ite_false, ↓reduceIte, reduceCtorEq, Nat.reduceEqDiff, Nat.reduceAdd, Nat.reduceLT, Nat.reduceLeDiff, Nat.reduceMul, Nat.reduceSub, not_true_eq_false, not_false_eq_true, and_self, and_true, true_and, and_false, false_and, h.1.1, kd57, c1, c1', r1]
      · unfold sE5
        rw [hq]
        exact r2
    | succ n ih =>
      intro k v u s c σ1 l7 hk hv hq h ht
      have hF1 := h.1.1
      obtain ⟨i1, i2, i3⟩ := tS_le hO k _ (by omega) hq
      dsimp only at i1 i2 i3
      have hb : 3 - k < 4 := by omega
      have eb : wM (4 - k) = nI (3 - k) := by rw [show 4 - k = (3 - k) + 1 by omega, wM_s]
      have eb1 : nI (3 - k) + (-1) = wM (4 - (k + 1)) := by rw [wM_p, show 4 - (k + 1) = 3 - k by omega]
      have hvw : v ≤ w := hv ▸ Nat.div_le_self _ _
      have hv1 : v / 5 = w / 5 ^ (k + 1) := by rw [hv, Nat.div_div_eq_div_mul, ← Nat.pow_succ]
      have e2 : nI v / nI 5 = nI (v / 5) := pk_div (by omega) (by decide) (by decide)
      have e1 : nI v - nI (v / 5) * nI 5 = nI (v % 5) := by rw [← e2]; exact pk_rem (by omega) (by decide) (by decide)
      have hx : v % 5 < 5 := Nat.mod_lt _ (by decide)
      have hd : d5 w (3 - k) = v % 5 := by unfold d5; rw [show 3 - (3 - k) = k by omega, hv]
      have hst : tS S w (k + 1) = sSp S (some (u, s, c)) (v % 5) (3 - k) := by
        show sSp S (tS S w k) (w / 5 ^ k % 5) (3 - k) = _
        rw [hq, hv]
      generalize v % 5 = x at *
      have e3 := wM_n x hx
      have c0 : ¬ nI (3 - k) < nI 0 := nI_pos (by omega)
      have nb := nI_cl (show 3 - k < 2147483648 by omega)
      have h2 : ∀ y, pRp S σ0 (am_wI σ1 63 (3 - k) y) a := fun y => pRp_w63 h hb
      have ht2 : ∀ j, 4 - (k + 1) ≤ j → j < 4 → am_I (am_wI σ1 63 (3 - k) (wM x)) 63 j = wM (d5 w j) := fun j q1 q2 => by
        rw [am_I_wI]
        by_cases e : j = 3 - k
        · rw [if_pos ⟨rfl, e⟩, e, hd]
        · rw [if_neg (fun q => e q.2), ht j (by omega) q2]
      by_cases x0 : x = 0
      · subst x0
        rw [sSp_z] at hst
        obtain ⟨σ', r1, r2⟩ := ih (k + 1) (v / 5) u s c _ (some (.int (wM 0))) (by omega) hv1 hst (h2 _) ht2
        refine ⟨σ', ?_, r2⟩
        have c1 : (wM 0 < nI 0) = True := by decide +kernel
        rw [s29_13, eb]
        simp only [s29_15, s29_18, s29_19, s29_20, s29_21, s29_22, s29_23, s29_25, s29_26, s29_27, s29_28, s29_29, s29_30, s29_33, s29_35, s29_37, s29_38, s29_40, s29_43, s29_44, s29_47, s29_49, s29_50, s29_52, s29_53, s29_54, s29_57, s29_58, s29_60, s29_61, s29_62, s29_63, s29_66, s29_67, s29_68, s29_69, s29_71, s29_72, s29_73, s29_74, s29_77, s29_79, s29_80, s29_83, s29_85, s29_86, s29_88, s29_89, s29_90, s29_92, s29_95, am_pu_s, am_pu_n, va_rf_s, va_rf_n, Option.bind_some, true_or, or_true, eq_self, if_true, if_false, ite_self, ite_true, ite_false, ↓reduceIte, reduceCtorEq, Nat.reduceEqDiff, Nat.reduceAdd, Nat.reduceLT, Nat.reduceLeDiff, Nat.reduceMul, Nat.reduceSub, not_true_eq_false, not_false_eq_true, and_self, and_true, true_and, and_false, false_and, hF1, kd57, rr57_1, h50, e1, e2, e3, ix63 hF1 hb, nb, c0, c1, eb1]
        exact r1
      · have hg : x - 1 < 4 := by omega
        have ex : wM x = nI (x - 1) := if_neg x0
        rw [ex] at e3 ht2
        have h2' := h2 (nI (x - 1))
        have hF2 := h2'.1.1
        have c1 : ¬ nI (x - 1) < nI 0 := nI_pos (by omega)
        have ng := nI_cl (show x - 1 < 2147483648 by omega)
        have hch : am_I (am_wI σ1 63 (3 - k) (nI (x - 1))) (59 + (3 - k)) (x - 1) = wM (sCg S (3 - k) (x - 1)) := h2'.2.1 _ _ hb hg
        have hcl := sCg_le (g := x - 1) hO hb
        have q1 : (wM (sCg S (3 - k) (x - 1)) = -1) = (sCg S (3 - k) (x - 1) = 0) := wM_m1 (by omega)
        have q2 := b_shr u i1 (x - 1) hg
        have q3 : (nI (u / 2 ^ (x - 1) % 2) = nI 0) = (u / 2 ^ (x - 1) % 2 = 0) := nI_EQ (by omega) (by decide)
        by_cases cx : u / 2 ^ (x - 1) % 2 = 1 ∨ sCg S (3 - k) (x - 1) = 0
        · have hn : tS S w (k + 1) = none := by rw [hst]; exact sSp_b x0 cx
          have hn4 := tS_none hn n
          rw [show k + 1 + n = 4 by omega] at hn4
          refine ⟨_, ?_, (?_ : pRp S σ0 (am_wI σ1 63 (3 - k) (nI (x - 1))) (sE5 S w a))⟩
          · rw [s29_13, eb]
            by_cases cy : sCg S (3 - k) (x - 1) = 0
            · have w0 : (wM 0 = -1) = True := by decide +kernel
              simp only [s29_15, s29_18, s29_19, s29_20, s29_21, s29_22, s29_23, s29_25, s29_26, s29_27, s29_28, s29_29, s29_30, s29_33, s29_35, s29_37, s29_38, s29_40, s29_43, s29_44, s29_47, s29_49, s29_50, s29_52, s29_53, s29_54, s29_57, s29_58, s29_60, s29_61, s29_62, s29_63, s29_66, s29_67, s29_68, s29_69, s29_71, s29_72, s29_73, s29_74, s29_77, s29_79, s29_80, s29_83, s29_85, s29_86, s29_88, s29_89, s29_90, s29_92, s29_95, am_pu_s, am_pu_n, va_rf_s, va_rf_n, Option.bind_some, true_or, or_true, eq_self, if_true, if_false, ite_self, ite_true, ite_false, ↓reduceIte, reduceCtorEq, Nat.reduceEqDiff, Nat.reduceAdd, Nat.reduceLT, Nat.reduceLeDiff, Nat.reduceMul, Nat.reduceSub, not_true_eq_false, not_false_eq_true, and_self, and_true, true_and, and_false, false_and, hF1, hF2, kd57, rr57_0, rr57_1, h50, e1, e2, e3, ix63 hF1 hb, ix58 hF2 hb, rCh hF2 hb, ixCh hF2 hb hg, nb, ng, c0, c1, hch, cy, w0]
            · have cz : ¬ u / 2 ^ (x - 1) % 2 = 0 := by
                rcases cx with cx | cx
                · omega
                · exact absurd cx cy
              simp only [s29_15, s29_18, s29_19, s29_20, s29_21, s29_22, s29_23, s29_25, s29_26, s29_27, s29_28, s29_29, s29_30, s29_33, s29_35, s29_37, s29_38, s29_40, s29_43, s29_44, s29_47, s29_49, s29_50, s29_52, s29_53, s29_54, s29_57, s29_58, s29_60, s29_61, s29_62, s29_63, s29_66, s29_67, s29_68, s29_69, s29_71, s29_72, s29_73, s29_74, s29_77, s29_79, s29_80, s29_83, s29_85, s29_86, s29_88, s29_89, s29_90, s29_92, s29_95, am_pu_s, am_pu_n, va_rf_s, va_rf_n, Option.bind_some, true_or, or_true, eq_self, if_true, if_false, ite_self, ite_true, ite_false, ↓reduceIte, reduceCtorEq, Nat.reduceEqDiff, Nat.reduceAdd, Nat.reduceLT, Nat.reduceLeDiff, Nat.reduceMul, Nat.reduceSub, not_true_eq_false, not_false_eq_true, and_self, and_true, true_and, and_false, false_and, hF1, hF2, kd57, rr57_0, rr57_1, h50, e1, e2, e3, ix63 hF1 hb, ix58 hF2 hb, rCh hF2 hb, ixCh hF2 hb hg, nb, ng, c0, c1, hch, q1, cy, q2, q3, cz]
          · unfold sE5
            rw [hn4]
            exact h2'
        · have cy : ¬ sCg S (3 - k) (x - 1) = 0 := fun q => cx (Or.inr q)
          have cz : u / 2 ^ (x - 1) % 2 = 0 := by
            have : ¬ u / 2 ^ (x - 1) % 2 = 1 := fun q => cx (Or.inl q)
            omega
          have hor := b_or u i1 (x - 1) hg (by omega)
          have hcv : wM (sCg S (3 - k) (x - 1)) = nI (sCg S (3 - k) (x - 1) - 1) := if_neg cy
          have q4 : (nI (sCg S (3 - k) (x - 1) - 1) = -1) = False := nI_m1 (by omega)
          rw [hcv] at hch
          rw [sSp_y x0 cx] at hst
          obtain ⟨σ', r1, r2⟩ := ih (k + 1) (v / 5) _ _ _ _ (some (.int (nI (x - 1)))) (by omega) hv1 hst h2' ht2
          refine ⟨σ', ?_, r2⟩
          rw [s29_13, eb]
          simp only [s29_15, s29_18, s29_19, s29_20, s29_21, s29_22, s29_23, s29_25, s29_26, s29_27, s29_28, s29_29, s29_30, s29_33, s29_35, s29_37, s29_38, s29_40, s29_43, s29_44, s29_47, s29_49, s29_50, s29_52, s29_53, s29_54, s29_57, s29_58, s29_60, s29_61, s29_62, s29_63, s29_66, s29_67, s29_68, s29_69, s29_71, s29_72, s29_73, s29_74, s29_77, s29_79, s29_80, s29_83, s29_85, s29_86, s29_88, s29_89, s29_90, s29_92, s29_95, am_pu_s, am_pu_n, va_rf_s, va_rf_n, Option.bind_some, true_or, or_true, eq_self, if_true, if_false, ite_self, ite_true, ite_false, ↓reduceIte, reduceCtorEq, Nat.reduceEqDiff, Nat.reduceAdd, Nat.reduceLT, Nat.reduceLeDiff, Nat.reduceMul, Nat.reduceSub, not_true_eq_false, not_false_eq_true, and_self, and_true, true_and, and_false, false_and, hF1, hF2, kd57, rr57_0, rr57_1, h50, e1, e2, e3, ix63 hF1 hb, ix58 hF2 hb, rCh hF2 hb, ixCh hF2 hb hg, nb, ng, c0, c1, hch, q2, q3, q4, cz, hor, nI_add, eb1]
          exact r1
  obtain ⟨σ', r1, r2⟩ := loop 4 0 w 0 0 0 σ none (by omega) (by rw [Nat.pow_zero, Nat.div_one]) rfl h (fun j q1 q2 => absurd q2 (by omega))
  refine ⟨σ', ?_, r2⟩
  have e3 : nI 3 = wM (4 - 0) := by decide +kernel
  rw [← e3] at r1
  rw [s29]
  simp only [s29_0, s29_1, s29_2, s29_3, s29_4, s29_5, s29_7, s29_8, s29_10, s29_11, am_pu_s, am_pu_n, va_rf_s, va_rf_n, Option.bind_some, true_or, or_true, eq_self, if_true, if_false, ite_self, ite_true, ite_false, ↓reduceIte, reduceCtorEq, Nat.reduceEqDiff, Nat.reduceAdd, Nat.reduceLT, Nat.reduceLeDiff, Nat.reduceMul, Nat.reduceSub, not_true_eq_false, not_false_eq_true, and_self, and_true, true_and, and_false, false_and]
  exact r1
end SE
