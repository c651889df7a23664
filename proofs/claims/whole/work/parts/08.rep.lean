/-! how the abstract memory stands in the real heap -/
def am_nS (σ : am_M) : Nat := ((am_S σ).map (·.2)).sum
def am_ws : List Cond := lw_tbl.filter goodWord
theorem am_wd_in {k : Nat} {w : Cond} (h : am_wd k w = true) : w ∈ am_ws := by
  unfold am_wd at h
  rw [Bool.and_eq_true, decide_eq_true_eq] at h
  exact List.mem_filter.mpr ⟨List.mem_of_getElem? h.1, h.2⟩
def am_AOA (ty : FieldType) (U : State) : Prop := (Cond.arrayOver (.array ty)).before #[] U = true
def am_cv (b S0 : Nat) : Value → Value
  | .ref k => .ref (S0 + k)
  | .double _ => .ref b
  | v => v
def am_fV (S0 ci k : Nat) (fi : Nat → Int32) (fj : Nat → Int64) (fr : Nat → Option Nat) : Value := match am_tc (am_dc ci k) with
  | 2 => .long (fj k)
  | 3 => va_rf ((fr k).map (S0 + ·))
  | _ => .int (fi k)
def am_E (cy : Nat → ClassId) (S0 : Nat) (fi : Nat → Int32) (fj : Nat → Int64) (fr : Nat → Option Nat) (q : Nat × Nat) : va_E :=
  if q.1 = 20 then .inl (cy 0, (q.2, .inl fi))
  else if q.1 = 21 then .inl (cy 1, (q.2, .inl fi))
  else if q.1 = 22 then .inl (cy 2, (q.2, .inl fi))
  else if q.1 = 23 then .inl (cy 3, (q.2, .inr (.inr (.inr (.inr (fun j => (fr j).map (S0 + ·)))))))
  else if q.1 = 24 then .inl (cy 4, (q.2, .inr (.inr (.inr (.inr (fun j => (fr j).map (S0 + ·)))))))
  else if q.1 = 25 then .inl (cy 5, (q.2, .inr (.inr (.inr (.inr (fun j => (fr j).map (S0 + ·)))))))
  else .inr (q.1, (List.range q.2).map (fun k => am_fV S0 q.1 k fi fj fr))
def am_W (cy : Nat → ClassId) (S0 : Nat) (σ : am_M) : va_W := (am_S σ).zipIdx.map (fun q => (S0 + q.2, am_E cy S0 (σ.1 q.2) (σ.2.1 q.2) (σ.2.2.1 q.2) q.1))
def am_ty (cy : Nat → ClassId) : List (ClassId × FieldType) := [(cy 0, .int), (cy 1, .byte), (cy 2, .boolean), (cy 3, .object "SoundToll$Gate"), (cy 4, .object "SoundToll$Tune"), (cy 5, .array .int)]
def am_wf (σ : am_M) : Prop := ∀ (o : Nat) (q : Nat × Nat), (am_S σ)[o]? = some q → ∀ c, vwCl[q.1]? = some c → q.2 = c.2.2
def am_H (D : va_G) (cy : Nat → ClassId) (S0 : Nat) (σ : am_M) (H : Heap) : Prop := va_P D vwCl (am_W cy S0 σ) H ∧ H.size = S0 + (am_S σ).length ∧ am_wf σ
def am_Env (D : va_G) (cy : Nat → ClassId) (U : State) : Prop := va_K D vwCl (am_ty cy) U ∧ (∀ w ∈ am_nest, va_Nw w U) ∧ va_AO "SoundToll$Gate" U ∧ va_AO "SoundToll$Tune" U ∧ am_AOA .int U
theorem am_W_at {cy : Nat → ClassId} {S0 : Nat} {σ : am_M} {o : Nat} : (am_W cy S0 σ)[o]? = (am_S σ)[o]?.map (fun q => (S0 + o, am_E cy S0 (σ.1 o) (σ.2.1 o) (σ.2.2.1 o) q)) := by
  unfold am_W
  rw [List.getElem?_map, List.getElem?_zipIdx]
  cases (am_S σ)[o]? with
  | none => rfl
  | some q => simp
theorem am_W_in {cy : Nat → ClassId} {S0 : Nat} {σ : am_M} {o : Nat} {q : Nat × Nat} (h : (am_S σ)[o]? = some q) : (am_W cy S0 σ)[o]? = some (S0 + o, am_E cy S0 (σ.1 o) (σ.2.1 o) (σ.2.2.1 o) q) := by
  rw [am_W_at, h]
  rfl
theorem am_W_D {cy : Nat → ClassId} {S0 : Nat} {σ : am_M} : va_D (fun q => S0 ≤ q) (am_W cy S0 σ) := by
  constructor
  · intro i j p q hi hj hpq
    rw [am_W_at] at hi hj
    cases h1 : (am_S σ)[i]? with
    | none => rw [h1] at hi; cases hi
    | some q1 =>
      cases h2 : (am_S σ)[j]? with
      | none => rw [h2] at hj; cases hj
      | some q2 =>
        rw [h1] at hi
        rw [h2] at hj
        cases hi
        cases hj
        exact Nat.add_left_cancel hpq
  · intro k q h
    rw [am_W_at] at h
    cases h1 : (am_S σ)[k]? with
    | none => rw [h1] at h; cases h
    | some q1 =>
      rw [h1] at h
      cases h
      exact Nat.le_add_right _ _
/-- one cell written -/
theorem am_W_set {cy : Nat → ClassId} {S0 : Nat} {σ σ' : am_M} {o : Nat} {q : Nat × Nat} (hS : am_S σ' = am_S σ) (h : (am_S σ)[o]? = some q) (h1 : ∀ a, a ≠ o → σ'.1 a = σ.1 a) (h2 : ∀ a, a ≠ o → σ'.2.1 a = σ.2.1 a) (h3 : ∀ a, a ≠ o → σ'.2.2.1 a = σ.2.2.1 a) : am_W cy S0 σ' = (am_W cy S0 σ).set o (S0 + o, am_E cy S0 (σ'.1 o) (σ'.2.1 o) (σ'.2.2.1 o) q) := by
  apply List.ext_getElem?
  intro j
  rw [List.getElem?_set, am_W_at, am_W_at, hS]
  by_cases hj : o = j
  · subst hj
    have hl : o < (am_W cy S0 σ).length := by
      unfold am_W
      rw [List.length_map, List.length_zipIdx]
      exact (List.getElem?_eq_some_iff.mp h).1
    rw [if_pos rfl, if_pos hl, h]
    rfl
  · rw [if_neg hj, h1 j (fun e => hj e.symm), h2 j (fun e => hj e.symm), h3 j (fun e => hj e.symm)]
theorem am_kd_S {σ : am_M} {o ci : Nat} (h : am_kd σ o = ci) (hc : ci ≠ 99) : (am_S σ)[o]? = some (ci, am_ln σ o) := by
  unfold am_kd at h
  unfold am_ln
  cases hs : (am_S σ)[o]? with
  | none => rw [hs] at h; exact absurd h.symm hc
  | some q =>
    rw [hs] at h
    show some q = some (ci, q.2)
    rw [← h]
    rfl
/-- new cells at the end -/
theorem am_W_new {cy : Nat → ClassId} {S0 : Nat} {σ : am_M} {c n : Nat} : am_W cy S0 (am_new σ c n) = am_W cy S0 σ ++ [(S0 + (am_S σ).length, am_E cy S0 (fun _ => 0) (fun _ => 0) (fun _ => none) (c, n))] := by
  apply List.ext_getElem?
  intro j
  have hS : am_S (am_new σ c n) = am_S σ ++ [(c, n)] := rfl
  have hl : (am_W cy S0 σ).length = (am_S σ).length := by unfold am_W; rw [List.length_map, List.length_zipIdx]
  rw [am_W_at, hS]
  by_cases hj : j < (am_S σ).length
  · rw [List.getElem?_append_left hj, List.getElem?_append_left (by omega), am_W_at]
    have e1 : (am_new σ c n).1 j = σ.1 j := funext fun k => if_neg (Nat.ne_of_lt hj)
    have e2 : (am_new σ c n).2.1 j = σ.2.1 j := funext fun k => if_neg (Nat.ne_of_lt hj)
    have e3 : (am_new σ c n).2.2.1 j = σ.2.2.1 j := funext fun k => if_neg (Nat.ne_of_lt hj)
    rw [e1, e2, e3]
  · rw [List.getElem?_append_right (by omega), List.getElem?_append_right (by omega), hl]
    by_cases he : j = (am_S σ).length
    · subst he
      rw [Nat.sub_self]
      have e1 : (am_new σ c n).1 (am_S σ).length = fun _ => 0 := funext fun k => if_pos rfl
      have e2 : (am_new σ c n).2.1 (am_S σ).length = fun _ => 0 := funext fun k => if_pos rfl
      have e3 : (am_new σ c n).2.2.1 (am_S σ).length = fun _ => none := funext fun k => if_pos rfl
      rw [e1, e2, e3]
      rfl
    · obtain ⟨k, hk⟩ : ∃ k, j - (am_S σ).length = k + 1 := ⟨j - (am_S σ).length - 1, by omega⟩
      rw [hk]
      rfl
theorem am_wf_new {σ : am_M} {c n : Nat} (h : am_wf σ) (hc : ∀ q, vwCl[c]? = some q → n = q.2.2) : am_wf (am_new σ c n) := by
  intro o q hq
  have hS : am_S (am_new σ c n) = am_S σ ++ [(c, n)] := rfl
  rw [hS] at hq
  by_cases hj : o < (am_S σ).length
  · rw [List.getElem?_append_left hj] at hq
    exact h o q hq
  · rw [List.getElem?_append_right (by omega)] at hq
    have h0 : o - (am_S σ).length < 1 := (List.getElem?_eq_some_iff.mp hq).1
    rw [show o - (am_S σ).length = 0 by omega] at hq
    cases hq
    exact hc
/-- a new cell's address is the next one -/
theorem am_next {D : va_G} {cy : Nat → ClassId} {S0 : Nat} {σ : am_M} {H1 : Heap} {q : Nat} {x : va_E} (hP : va_P D vwCl (am_W cy S0 σ ++ [(q, x)]) H1) (hD : va_D (fun q => S0 ≤ q) (am_W cy S0 σ ++ [(q, x)])) (hz : H1.size ≤ S0 + (am_S σ).length + 1) : q = S0 + (am_S σ).length := by
  have hl : (am_W cy S0 σ).length = (am_S σ).length := by unfold am_W; rw [List.length_map, List.length_zipIdx]
  have hat : (am_W cy S0 σ ++ [(q, x)])[(am_S σ).length]? = some (q, x) := by rw [List.getElem?_append_right (by omega), hl, Nat.sub_self]; rfl
  have h1 : q < H1.size := (hP _ _ hat).lt
  have h2 : S0 ≤ q := hD.2 _ _ hat
  rcases Nat.lt_or_ge q (S0 + (am_S σ).length) with h3 | h3
  · exfalso
    have h4 : q - S0 < (am_S σ).length := by omega
    have h5 : (am_W cy S0 σ ++ [(q, x)])[q - S0]? = some (S0 + (q - S0), am_E cy S0 (σ.1 (q - S0)) (σ.2.1 (q - S0)) (σ.2.2.1 (q - S0)) (am_S σ)[q - S0]) := by
      rw [List.getElem?_append_left (by omega)]
      exact am_W_in (List.getElem?_eq_getElem h4)
    have := hD.1 _ _ _ _ h5 hat (by show S0 + (q - S0) = q; omega)
    omega
  · omega
theorem am_H_new {D : va_G} {cy : Nat → ClassId} {S0 : Nat} {σ : am_M} {H1 : Heap} {c n q : Nat} {x : va_E} (hw : am_wf σ) (hP : va_P D vwCl (am_W cy S0 σ ++ [(q, x)]) H1) (hD : va_D (fun q => S0 ≤ q) (am_W cy S0 σ ++ [(q, x)])) (hz : H1.size ≤ S0 + (am_S σ).length + 1) (hx : x = am_E cy S0 (fun _ => 0) (fun _ => 0) (fun _ => none) (c, n)) (hc : ∀ q, vwCl[c]? = some q → n = q.2.2) : am_H D cy S0 (am_new σ c n) H1 := by
  have hq := am_next hP hD hz
  subst hq
  subst hx
  have hl : (am_W cy S0 σ).length = (am_S σ).length := by unfold am_W; rw [List.length_map, List.length_zipIdx]
  have hat : (am_W cy S0 σ ++ [(S0 + (am_S σ).length, am_E cy S0 (fun _ => 0) (fun _ => 0) (fun _ => none) (c, n))])[(am_S σ).length]? = some (S0 + (am_S σ).length, am_E cy S0 (fun _ => 0) (fun _ => 0) (fun _ => none) (c, n)) := by rw [List.getElem?_append_right (by omega), hl, Nat.sub_self]; rfl
  have h1 : S0 + (am_S σ).length < H1.size := (hP _ _ hat).lt
  refine ⟨by rw [am_W_new]; exact hP, ?_, am_wf_new hw hc⟩
  show H1.size = S0 + (am_S σ ++ [(c, n)]).length
  rw [List.length_append]
  simp
  omega
/-! the locals -/
def am_ll (b S0 : Nat) : Nat → am_L → List (Nat × Value)
  | _, [] => []
  | i, none :: r => am_ll b S0 (i + 1) r
  | i, some v :: r => (i, am_cv b S0 v) :: am_ll b S0 (i + 1) r
theorem am_ll_mem {b S0 : Nat} : ∀ (L : am_L) (i : Nat) (q : Nat × Value), q ∈ am_ll b S0 i L ↔ ∃ k w, L[k]? = some (some w) ∧ q = (i + k, am_cv b S0 w)
  | [], i, q => by simp [am_ll]
  | none :: r, i, q => by
    rw [am_ll, am_ll_mem r (i + 1) q]
    constructor
    · rintro ⟨k, w, h1, h2⟩
      exact ⟨k + 1, w, h1, by rw [h2, Nat.add_assoc, Nat.add_comm 1 k]⟩
    · rintro ⟨k, w, h1, h2⟩
      cases k with
      | zero => cases h1
      | succ k => exact ⟨k, w, h1, by rw [h2, Nat.add_assoc, Nat.add_comm 1 k]⟩
  | some v :: r, i, q => by
    rw [am_ll, List.mem_cons, am_ll_mem r (i + 1) q]
    constructor
    · rintro (h | ⟨k, w, h1, h2⟩)
      · exact ⟨0, v, rfl, h⟩
      · exact ⟨k + 1, w, h1, by rw [h2, Nat.add_assoc, Nat.add_comm 1 k]⟩
    · rintro ⟨k, w, h1, h2⟩
      cases k with
      | zero => cases h1; exact Or.inl h2
      | succ k => exact Or.inr ⟨k, w, h1, by rw [h2, Nat.add_assoc, Nat.add_comm 1 k]⟩
def am_LR (b S0 : Nat) (g : Bool) (L : am_L) (nL : Nat) (ls : Array Slot) : Prop := L.length = nL ∧ lv_has ls nL (am_ll b S0 0 L) ∧ (g = false → ∀ v, some v ∈ L → am_lgv v = false)
theorem am_LR_get {b S0 : Nat} {g : Bool} {L : am_L} {nL : Nat} {ls : Array Slot} (h : am_LR b S0 g L nL ls) {k : Nat} {v : Value} (hv : am_get L k = some v) : ls[k]? = some (.val (am_cv b S0 v)) := by
  unfold am_get at hv
  have h1 : L[k]? = some (some v) := by
    split at hv
    · rename_i w hw
      cases hv
      exact hw
    · cases hv
  have := h.2.1.2.2 (0 + k, am_cv b S0 v) ((am_ll_mem L 0 _).mpr ⟨k, v, h1, rfl⟩)
  simpa using this
theorem am_cat {b S0 : Nat} {v : Value} (h : (am_cv b S0 v).category = 2) : am_lgv v = true := by
  cases v <;> first | rfl | (revert h; simp [am_cv, Value.category])
theorem am_LR_set {b S0 : Nat} {g : Bool} {L L' : am_L} {nL : Nat} {ls ls' : Array Slot} {k : Nat} {v : Value} (h : am_LR b S0 g L nL ls) (hs : am_set g L k v = some L') (hv : am_lgv v = false)
    (hh : lv_has ls' nL ((k, am_cv b S0 v) :: (am_ll b S0 0 L).filter (fun q => !(q.1 == k) && !(q.1 + 1 == k && q.2.category == 2)))) : am_LR b S0 g L' nL ls' := by
  unfold am_set at hs
  split at hs
  · rename_i hc
    cases hs
    rw [Bool.and_eq_true, Bool.or_eq_true] at hc
    obtain ⟨hk, hc⟩ := hc
    have hk : k < L.length := Nat.le_of_ble_eq_true hk
    refine ⟨by rw [List.length_set]; exact h.1, ⟨hh.1, hh.2.1, ?_⟩, ?_⟩
    · intro q hq
      obtain ⟨j, w, h1, rfl⟩ := (am_ll_mem _ 0 q).mp hq
      apply hh.2.2
      rw [List.getElem?_set] at h1
      by_cases hj : k = j
      · subst hj
        rw [if_pos rfl, if_pos hk] at h1
        cases h1
        rw [Nat.zero_add]
        exact List.mem_cons_self
      · rw [if_neg hj] at h1
        apply List.mem_cons_of_mem
        rw [List.mem_filter]
        refine ⟨(am_ll_mem _ 0 _).mpr ⟨j, w, h1, rfl⟩, ?_⟩
        rw [Bool.and_eq_true]
        refine ⟨by simp; omega, ?_⟩
        by_cases h2 : j + 1 = k ∧ (am_cv b S0 w).category = 2
        · exfalso
          have hw := am_cat h2.2
          rcases hc with hc | hc
          · have hg : g = false := by simpa using hc
            have := h.2.2 hg w (List.mem_of_getElem? h1)
            rw [this] at hw
            cases hw
          · have hget : am_get L (k - 1) = some w := by
              unfold am_get
              rw [show k - 1 = j by omega, h1]
            unfold am_pl at hc
            rw [hget] at hc
            simp [hw] at hc
        · simp only [Bool.not_eq_true', Bool.and_eq_false_iff, beq_eq_false_iff_ne, ne_eq]
          by_cases h3 : 0 + j + 1 = k
          · right
            intro h4
            exact h2 ⟨by omega, h4⟩
          · left
            exact h3
    · intro hg w hw
      rcases List.mem_or_eq_of_mem_set hw with h1 | h1
      · exact h.2.2 hg w h1
      · cases h1
        exact hv
  · cases hs
theorem am_LR_set2 {b S0 : Nat} {g : Bool} {L L' : am_L} {nL : Nat} {ls ls' : Array Slot} {k : Nat} {v : Value} (h : am_LR b S0 g L nL ls) (hs : am_set2 g L k v = some L')
    (hh : lv_has ls' nL ((k, am_cv b S0 v) :: (am_ll b S0 0 L).filter (fun q => !(q.1 == k) && (!(q.1 == k + 1) && !(q.1 + 1 == k && q.2.category == 2))))) : am_LR b S0 g L' nL ls' := by
  unfold am_set2 at hs
  split at hs
  · rename_i hc
    cases hs
    rw [Bool.and_eq_true, Bool.and_eq_true] at hc
    obtain ⟨hk, hg, hc⟩ := hc
    have hk : k + 1 < L.length := Nat.le_of_ble_eq_true hk
    refine ⟨by rw [List.length_set, List.length_set]; exact h.1, ⟨hh.1, hh.2.1, ?_⟩, fun hg' => by rw [hg] at hg'; cases hg'⟩
    intro q hq
    obtain ⟨j, w, h1, rfl⟩ := (am_ll_mem _ 0 q).mp hq
    apply hh.2.2
    rw [List.getElem?_set] at h1
    by_cases hj1 : k + 1 = j
    · rw [if_pos hj1] at h1
      split at h1 <;> cases h1
    · rw [if_neg hj1, List.getElem?_set] at h1
      by_cases hj : k = j
      · subst hj
        rw [if_pos rfl, if_pos (by omega)] at h1
        cases h1
        rw [Nat.zero_add]
        exact List.mem_cons_self
      · rw [if_neg hj] at h1
        apply List.mem_cons_of_mem
        rw [List.mem_filter]
        refine ⟨(am_ll_mem _ 0 _).mpr ⟨j, w, h1, rfl⟩, ?_⟩
        rw [Bool.and_eq_true, Bool.and_eq_true]
        refine ⟨by simp; omega, by simp; omega, ?_⟩
        by_cases h2 : j + 1 = k ∧ (am_cv b S0 w).category = 2
        · exfalso
          have hw := am_cat h2.2
          have hget : am_get L (k - 1) = some w := by
            unfold am_get
            rw [show k - 1 = j by omega, h1]
          unfold am_pl at hc
          rw [hget] at hc
          simp [hw] at hc
        · simp only [Bool.not_eq_true', Bool.and_eq_false_iff, beq_eq_false_iff_ne, ne_eq]
          by_cases h3 : 0 + j + 1 = k
          · right
            intro h4
            exact h2 ⟨by omega, h4⟩
          · left
            exact h3
  · cases hs
