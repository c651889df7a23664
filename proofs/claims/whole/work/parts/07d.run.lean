/-! runs of the abstract machine, and what a run gives: am_w (from a place in a method on), am_v (a call) -/
def am_fe (y pc : Nat) : Option (Bool × Bool × Instr × List Nat) := match am_Ts[y]? with
  | some r => match List.lookup pc r.2.2.2.2.2.2 with
    | some q => some (r.2.2.2.2.1, r.2.2.2.2.2.1, q.1, q.2)
    | none => none
  | none => none
def am_at (X : am_X) (y pc : Nat) (L : am_L) (st : List Value) (σ : am_M) : Option am_A := match am_fe y pc with
  | some q => am_step X y q.1 q.2.1 q.2.2.1 q.2.2.2 pc L st σ
  | none => none
def am_sl : List Value → am_L
  | [] => []
  | .long v :: r => some (.long v) :: none :: am_sl r
  | v :: r => some v :: am_sl r
def am_ent (z : Nat) (as : List Value) : Option am_L := match am_Ts[z]? with
  | some r => if (r.2.2.2.2.1 || as.all (fun v => !am_lgv v)) && Nat.ble (am_sl as).length r.2.2.1 then some (am_sl as ++ List.replicate (r.2.2.1 - (am_sl as).length) none) else none
  | none => none
def am_pu (v : Option Value) (r : List Value) : List Value := match v with
  | some v => v :: r
  | none => r
def am_run (X : am_X) : Nat → Nat → Nat → Nat → am_L → List Value → am_M → Option (Option Value × am_M)
  | 0, _, _, _, _, _, _ => none
  | n + 1, d, y, pc, L, st, σ => match am_at X y pc L st σ with
    | none => none
    | some (.inl q) => am_run X n d y q.1 q.2.1 q.2.2.1 q.2.2.2
    | some (.inr (.inl q)) => some q
    | some (.inr (.inr q)) => match d with
      | 0 => none
      | d' + 1 => match am_ent q.1 q.2.1 with
        | none => none
        | some L' => match am_run X n d' q.1 0 L' [] σ with
          | none => none
          | some w => am_run X n (d' + 1) y q.2.2.2 L (am_pu w.1 q.2.2.1) w.2
theorem am_run_succ (X : am_X) (n d y pc : Nat) (L : am_L) (st : List Value) (σ : am_M) : am_run X (n + 1) d y pc L st σ = (match am_at X y pc L st σ with
    | none => none
    | some (.inl q) => am_run X n d y q.1 q.2.1 q.2.2.1 q.2.2.2
    | some (.inr (.inl q)) => some q
    | some (.inr (.inr q)) => match d with
      | 0 => none
      | d' + 1 => match am_ent q.1 q.2.1 with
        | none => none
        | some L' => match am_run X n d' q.1 0 L' [] σ with
          | none => none
          | some w => am_run X n (d' + 1) y q.2.2.2 L (am_pu w.1 q.2.2.1) w.2) := rfl
theorem am_run_mono1 (X : am_X) : ∀ (n d y pc : Nat) (L : am_L) (st : List Value) (σ : am_M) (r : Option Value × am_M), am_run X n d y pc L st σ = some r → am_run X (n + 1) d y pc L st σ = some r := by
  intro n
  induction n with
  | zero => intro d y pc L st σ r h; cases h
  | succ n ih =>
    intro d y pc L st σ r h
    rw [am_run_succ] at h
    rw [am_run_succ]
    cases ha : am_at X y pc L st σ with
    | none => rw [ha] at h; cases h
    | some a =>
      rw [ha] at h
      rcases a with q | q | q
      · exact ih _ _ _ _ _ _ _ h
      · exact h
      · cases d with
        | zero => cases h
        | succ d' =>
          dsimp only at h ⊢
          cases he : am_ent q.1 q.2.1 with
          | none => rw [he] at h; cases h
          | some L' =>
            rw [he] at h
            dsimp only at h ⊢
            cases hr : am_run X n d' q.1 0 L' [] σ with
            | none => rw [hr] at h; cases h
            | some w =>
              rw [hr] at h
              rw [ih _ _ _ _ _ _ _ hr]
              exact ih _ _ _ _ _ _ _ h
theorem am_run_mono (X : am_X) {n m d y pc : Nat} {L : am_L} {st : List Value} {σ : am_M} {r : Option Value × am_M} (h : am_run X n d y pc L st σ = some r) (hm : n ≤ m) : am_run X m d y pc L st σ = some r := by
  obtain ⟨k, rfl⟩ := Nat.exists_eq_add_of_le hm
  induction k with
  | zero => exact h
  | succ k ih => exact am_run_mono1 X _ _ _ _ _ _ _ _ (ih (Nat.le_add_right _ _))
noncomputable def am_w (X : am_X) (d y pc : Nat) (L : am_L) (st : List Value) (σ : am_M) : Option (Option Value × am_M) := by
  classical
  exact if h : ∃ r n, am_run X n d y pc L st σ = some r then some h.choose else none
theorem am_w_some {X : am_X} {d y pc : Nat} {L : am_L} {st : List Value} {σ : am_M} {r : Option Value × am_M} : am_w X d y pc L st σ = some r ↔ ∃ n, am_run X n d y pc L st σ = some r := by
  unfold am_w
  constructor
  · intro h
    split at h
    · rename_i h'
      cases h
      exact h'.choose_spec
    · cases h
  · rintro ⟨n, h⟩
    have h' : ∃ r n, am_run X n d y pc L st σ = some r := ⟨r, n, h⟩
    rw [dif_pos h']
    obtain ⟨m, hm⟩ := h'.choose_spec
    have h1 := am_run_mono X h (Nat.le_max_left n m)
    have h2 := am_run_mono X hm (Nat.le_max_right n m)
    rw [h1] at h2
    exact h2.symm
noncomputable def am_v (X : am_X) (d z : Nat) (as : List Value) (σ : am_M) : Option (Option Value × am_M) := match d with
  | 0 => none
  | d' + 1 => match am_ent z as with
    | none => none
    | some L' => am_w X d' z 0 L' [] σ
noncomputable def am_k (X : am_X) (d y : Nat) (L : am_L) (σ : am_M) (a : Option am_A) : Option (Option Value × am_M) := match a with
  | none => none
  | some (.inl q) => am_w X d y q.1 q.2.1 q.2.2.1 q.2.2.2
  | some (.inr (.inl q)) => some q
  | some (.inr (.inr q)) => (am_v X d q.1 q.2.1 σ).bind fun w => am_w X d y q.2.2.2 L (am_pu w.1 q.2.2.1) w.2
theorem am_ext {α : Type} {a b : Option α} (h : ∀ r, a = some r ↔ b = some r) : a = b := by
  cases a with
  | none =>
    cases b with
    | none => rfl
    | some y => exact absurd ((h y).mpr rfl) (by simp)
  | some x => exact ((h x).mp rfl).symm
theorem am_w_eq (X : am_X) (d y pc : Nat) (L : am_L) (st : List Value) (σ : am_M) : am_w X d y pc L st σ = am_k X d y L σ (am_at X y pc L st σ) := by
  apply am_ext
  intro r
  rw [am_w_some]
  have hs : (∃ n, am_run X n d y pc L st σ = some r) ↔ ∃ n, am_run X (n + 1) d y pc L st σ = some r :=
    ⟨fun ⟨n, h⟩ => ⟨n, am_run_mono1 X _ _ _ _ _ _ _ _ h⟩, fun ⟨n, h⟩ => ⟨n + 1, h⟩⟩
  rw [hs]
  cases ha : am_at X y pc L st σ with
  | none =>
    constructor
    · rintro ⟨n, h⟩
      rw [am_run_succ, ha] at h
      cases h
    · intro h
      cases h
  | some a =>
    rcases a with q | q | q
    · show _ ↔ am_w X d y q.1 q.2.1 q.2.2.1 q.2.2.2 = some r
      rw [am_w_some]
      constructor
      · rintro ⟨n, h⟩
        rw [am_run_succ, ha] at h
        exact ⟨n, h⟩
      · rintro ⟨n, h⟩
        exact ⟨n, by rw [am_run_succ, ha]; exact h⟩
    · show _ ↔ some q = some r
      constructor
      · rintro ⟨n, h⟩
        rw [am_run_succ, ha] at h
        exact h
      · intro h
        exact ⟨0, by rw [am_run_succ, ha]; exact h⟩
    · show _ ↔ (am_v X d q.1 q.2.1 σ).bind (fun w => am_w X d y q.2.2.2 L (am_pu w.1 q.2.2.1) w.2) = some r
      cases d with
      | zero =>
        constructor
        · rintro ⟨n, h⟩
          rw [am_run_succ, ha] at h
          cases h
        · intro h
          cases h
      | succ d' =>
        constructor
        · rintro ⟨n, h⟩
          rw [am_run_succ, ha] at h
          dsimp only at h
          cases he : am_ent q.1 q.2.1 with
          | none => rw [he] at h; cases h
          | some L' =>
            rw [he] at h
            dsimp only at h
            cases hr : am_run X n d' q.1 0 L' [] σ with
            | none => rw [hr] at h; cases h
            | some w =>
              rw [hr] at h
              have h1 : am_v X (d' + 1) q.1 q.2.1 σ = some w := by
                unfold am_v
                rw [he]
                exact am_w_some.mpr ⟨n, hr⟩
              rw [h1]
              exact am_w_some.mpr ⟨n, h⟩
        · intro h
          obtain ⟨w, h1, h2⟩ := Option.bind_eq_some_iff.mp h
          unfold am_v at h1
          dsimp only at h1
          cases he : am_ent q.1 q.2.1 with
          | none => rw [he] at h1; cases h1
          | some L' =>
            rw [he] at h1
            obtain ⟨n1, e1⟩ := am_w_some.mp h1
            obtain ⟨n2, e2⟩ := am_w_some.mp h2
            refine ⟨max n1 n2, ?_⟩
            rw [am_run_succ, ha]
            dsimp only
            rw [he]
            dsimp only
            rw [am_run_mono X e1 (Nat.le_max_left n1 n2)]
            exact am_run_mono X e2 (Nat.le_max_right n1 n2)
/-- a row of the tables: what one instruction does -/
theorem am_s {X : am_X} {d y pc : Nat} {L : am_L} {st : List Value} {σ : am_M} {g bz : Bool} {ins : Instr} {x : List Nat} (hf : am_fe y pc = some (g, bz, ins, x)) : am_w X d y pc L st σ = am_k X d y L σ (am_step X y g bz ins x pc L st σ) := by
  rw [am_w_eq]
  unfold am_at
  rw [hf]
theorem am_k_ite {X : am_X} {d y : Nat} {L : am_L} {σ : am_M} {c : Prop} {h : Decidable c} {a b : Option am_A} : am_k X d y L σ (@ite _ c h a b) = @ite _ c h (am_k X d y L σ a) (am_k X d y L σ b) := by
  by_cases hc : c
  · rw [if_pos hc, if_pos hc]
  · rw [if_neg hc, if_neg hc]
