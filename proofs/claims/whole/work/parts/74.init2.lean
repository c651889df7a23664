/-! the constructors' runs -/
def in_run : Nat → Nat → Nat → Nat → am_L → List Value → am_QL → Option (Option Value × am_QL)
  | 0, _, _, _, _, _, _ => none
  | n + 1, d, y, pc, L, st, t => match am_fe y pc with
    | none => none
    | some q => match in_step q.1 q.2.1 q.2.2.1 q.2.2.2 pc L st t with
      | none => none
      | some (.inl a) => in_run n d y a.1 a.2.1 a.2.2.1 a.2.2.2
      | some (.inr (.inl a)) => some a
      | some (.inr (.inr a)) => match d with
        | 0 => none
        | d' + 1 => match am_ent a.1 a.2.1 with
          | none => none
          | some L' => match in_run n d' a.1 0 L' [] t with
            | none => none
            | some w => in_run n (d' + 1) y a.2.2.2 L (am_pu w.1 a.2.2.1) w.2
theorem in_run_ok (X : am_X) : ∀ (n d y pc : Nat) (L : am_L) (st : List Value) (t : am_QL) (v : Option Value) (t' : am_QL), qOK t → in_run n d y pc L st t = some (v, t') → am_run X n d y pc L st (am_qm t) = some (v, am_qm t') ∧ qOK t' := by
  intro n
  induction n with
  | zero => intro d y pc L st t v t' _ h; cases h
  | succ n ih =>
    intro d y pc L st t v t' ht h
    rw [in_run] at h
    rw [am_run_succ]
    unfold am_at
    cases hf : am_fe y pc with
    | none => rw [hf] at h; cases h
    | some q =>
      rw [hf] at h
      dsimp only at h ⊢
      cases hs : in_step q.1 q.2.1 q.2.2.1 q.2.2.2 pc L st t with
      | none => rw [hs] at h; cases h
      | some a =>
        rw [hs] at h
        obtain ⟨e, k⟩ := in_ok (X := X) (y := y) ht hs
        rw [e]
        rcases a with a | a | a
        · exact ih _ _ _ _ _ _ _ _ k h
        · cases h
          exact ⟨rfl, k⟩
        · cases d with
          | zero => cases h
          | succ d' =>
            dsimp only at h
            show (match am_ent a.1 a.2.1 with
              | none => none
              | some L' => match am_run X n d' a.1 0 L' [] (am_qm t) with
                | none => none
                | some w => am_run X n (d' + 1) y a.2.2.2 L (am_pu w.1 a.2.2.1) w.2) = _ ∧ _
            cases he : am_ent a.1 a.2.1 with
            | none => rw [he] at h; cases h
            | some L' =>
              rw [he] at h
              dsimp only at h ⊢
              cases hr : in_run n d' a.1 0 L' [] t with
              | none => rw [hr] at h; cases h
              | some w =>
                rw [hr] at h
                obtain ⟨w1, w2⟩ := w
                obtain ⟨e1, k1⟩ := ih _ _ _ _ _ _ _ _ ht hr
                rw [e1]
                exact ih _ _ _ _ _ _ _ _ k1 h
def in_V : List ((Nat × Nat) × Int32) := [((53, 0), 3), ((52, 0), 2), ((51, 0), 1), ((50, 0), 0), ((30, 0), 3), ((29, 0), 2), ((28, 0), 1), ((27, 0), 0)]
def in_c1 : Option (Option Value × am_QL) := in_run 250 9 85 0 [some (.ref (0 : Nat))] [] ([(10, 11)], [], [])
def in_c2 (t : am_QL) : Option (Option Value × am_QL) := in_run 250 9 123 0 [some (.ref (66 : Nat))] [] (t.1 ++ [(11, 57)], t.2)
def in_chk : Bool := match in_c1 with
  | some (none, t) => decide (t.1.length = 66) && (match in_c2 t with
    | some (none, t2) => decide (t2.1 = am_SH) && (am_RL.all (fun q => decide (List.lookup (q.1.1, q.1.2) t2.2.1 = some q.2)) && decide (t2.2.2 = in_V))
    | _ => false)
  | _ => false
set_option maxRecDepth 100000 in
theorem in_chk_ok : in_chk = true := by decide +kernel
theorem in_all : ∃ t t2, in_c1 = some (none, t) ∧ t.1.length = 66 ∧ in_c2 t = some (none, t2) ∧ t2.1 = am_SH ∧ (∀ q ∈ am_RL, List.lookup (q.1.1, q.1.2) t2.2.1 = some q.2) ∧ t2.2.2 = in_V := by
  have h := in_chk_ok
  unfold in_chk at h
  split at h
  · rename_i t h1
    rw [Bool.and_eq_true, decide_eq_true_eq] at h
    obtain ⟨h2, h⟩ := h
    split at h
    · rename_i t2 h3
      simp only [Bool.and_eq_true, decide_eq_true_eq, List.all_eq_true] at h
      exact ⟨t, t2, h1, h2, h3, h.1, h.2.1, h.2.2⟩
    · cases h
  · cases h
theorem in_Vz {o k : Nat} (h : ¬ (k = 0 ∧ ((27 ≤ o ∧ o ≤ 30) ∨ (50 ≤ o ∧ o ≤ 53)))) : (List.lookup (o, k) in_V).getD 0 = nI 0 := by
  unfold in_V
  rw [lookup_c, if_neg (by omega), lookup_c, if_neg (by omega), lookup_c, if_neg (by omega), lookup_c, if_neg (by omega), lookup_c, if_neg (by omega), lookup_c, if_neg (by omega), lookup_c, if_neg (by omega), lookup_c, if_neg (by omega)]
  rfl
theorem in_Vg : ∀ g, g < 4 → (List.lookup (27 + g, 0) in_V).getD 0 = nI g := by decide +kernel
/-- the state at the start -/
def sZ : am_St := fun _ _ _ => 0
theorem sZ_ok : sOK 0 sZ := by
  refine ⟨⟨fun b _ => ⟨by show 0 ≤ 60; omega, fun j _ => by show 0 < 128; omega, by show 0 ≤ 40; omega, fun g _ => by show 0 ≤ 99; omega⟩, by show 0 ≤ 4; omega, fun g _ => ⟨by show 0 ≤ 4; omega, by show 0 ≤ 99; omega, by show 0 ≤ 6; omega⟩, by show 0 ≤ 8; omega, fun j _ => ⟨by show 0 < 4; omega, by show 0 ≤ 2000; omega, by show 0 ≤ 1; omega⟩⟩, ⟨by show 0 ≤ 40; omega, fun j hj => absurd (show j < 0 from hj) (by omega)⟩, by show 0 ≤ 0; omega, by show 0 ≤ 1; omega, fun q => absurd (show 0 = 1 from q) (by decide)⟩
theorem sZ_rep {t : am_QL} (h1 : t.1 = am_SH) (h2 : ∀ q ∈ am_RL, List.lookup (q.1.1, q.1.2) t.2.1 = some q.2) (h3 : t.2.2 = in_V) : cRep sZ (am_qm t) ∧ mRep sZ (am_qm t) := by
  have hF : am_F (am_qm t) := ⟨h1, fun q hq => h2 q hq⟩
  have z : ∀ o k, ¬ (k = 0 ∧ ((27 ≤ o ∧ o ≤ 30) ∨ (50 ≤ o ∧ o ≤ 53))) → am_I (am_qm t) o k = nI 0 := fun o k q => by
    show (List.lookup (o, k) t.2.2).getD 0 = nI 0
    rw [h3]
    exact in_Vz q
  constructor
  · refine ⟨hF, ⟨z _ _ (by omega), fun b hb => ⟨⟨z _ _ (by omega), fun j _ => z _ _ (by omega), fun g _ => z _ _ (by omega)⟩, fun q => absurd (show 0 < 0 from q) (by omega)⟩, fun g hg => ⟨z _ _ (by omega), z _ _ (by omega), z _ _ (by omega), z _ _ (by omega), z _ _ (by omega)⟩, z _ _ (by omega), fun j hj => ⟨z _ _ (by omega), z _ _ (by omega), z _ _ (by omega)⟩⟩, fun q => absurd (show 0 = 1 from q) (by decide), ⟨z _ _ (by omega), fun j hj => absurd (show j < 0 from hj) (by omega)⟩, fun g hg => ?_, z _ _ (by omega), z _ _ (by omega), z _ _ (by omega)⟩
    show (List.lookup (27 + g, 0) t.2.2).getD 0 = nI g
    rw [h3]
    exact in_Vg g hg
  · refine ⟨hF, ⟨fun b hb => ⟨fun j _ => z _ _ (by omega), z _ _ (by omega), fun q => absurd (show 0 < 0 from q) (by omega), fun g _ => z _ _ (by omega)⟩, fun g hg => ⟨z _ _ (by omega), z _ _ (by omega), z _ _ (by omega), z _ _ (by omega)⟩, fun j hj => ⟨z _ _ (by omega), z _ _ (by omega), z _ _ (by omega)⟩⟩, fun g hg => z _ _ (by omega), z _ _ (by omega), z _ _ (by omega), ⟨z _ _ (by omega), fun j hj => absurd (show j < 0 from hj) (by omega)⟩, z _ _ (by omega), z _ _ (by omega), fun q => absurd (show 0 = 1 from q) (by decide), fun _ => Or.inl (z _ _ (by omega))⟩
/-- the law's start: both objects made -/
theorem law_0 (X : am_X) {u : UInt64} : ∃ σ, am_w X 10 0 0 [some (.double u), none, none, none] [] (am_qm ([], [], [])) = am_w X 10 0 18 [some (.double u), some (.ref (0 : Nat)), some (.ref (66 : Nat)), some (.int (nI 0))] [] σ ∧ cRep sZ σ ∧ mRep sZ σ := by
  obtain ⟨t, t2, h1, h2, h3, h4, h5, h6⟩ := in_all
  have q0 : qOK ([], [], []) := ⟨fun q hq => absurd hq (by simp), fun q hq => absurd hq (by simp)⟩
  obtain ⟨n0, k0⟩ := am_q_new q0 10 11
  obtain ⟨r1, k1⟩ := in_run_ok X _ _ _ _ _ _ _ _ _ k0 h1
  obtain ⟨n1, k1'⟩ := am_q_new k1 11 57
  obtain ⟨r2, k2⟩ := in_run_ok X _ _ _ _ _ _ _ _ _ k1' h3
  have v1 : am_v X 10 85 [.ref (0 : Nat)] (am_qm ([(10, 11)], [], [])) = some (none, am_qm t) := by
    rw [am_v_e (show am_ent 85 [.ref (0 : Nat)] = some [some (.ref (0 : Nat))] by rfl)]
    exact am_w_some.mpr ⟨_, r1⟩
  have v2 : am_v X 10 123 [.ref (66 : Nat)] (am_qm (t.1 ++ [(11, 57)], t.2)) = some (none, am_qm t2) := by
    rw [am_v_e (show am_ent 123 [.ref (66 : Nat)] = some [some (.ref (66 : Nat))] by rfl)]
    exact am_w_some.mpr ⟨_, r2⟩
  obtain ⟨hc, hm⟩ := sZ_rep h4 h5 h6
  refine ⟨am_qm t2, ?_, hc, hm⟩
  have e0 : ∀ {L : am_L} {st : List Value} {σ : am_M}, am_w X 10 0 0 L st σ = am_w X 10 0 3 L (.ref (am_S σ).length :: st) (am_new σ 10 11) := am_s (by decide +kernel : am_fe 0 0 = some (false, true, .new 7, [10, 11, 95]))
  have e8 : ∀ {L : am_L} {st : List Value} {σ : am_M}, am_w X 10 0 8 L st σ = am_w X 10 0 11 L (.ref (am_S σ).length :: st) (am_new σ 11 57) := am_s (by decide +kernel : am_fe 0 8 = some (false, true, .new 10, [11, 57, 895]))
  have e4 : ∀ {L : am_L} {o o' : Nat} {σ : am_M}, am_w X 10 0 4 L [.ref o, .ref o'] σ = (am_v X 10 85 [.ref o] σ).bind fun w => am_w X 10 0 7 L (am_pu w.1 [.ref o']) w.2 := am_s (by decide +kernel : am_fe 0 4 = some (false, true, .invokespecial 9, [1, 85, 0, 97]))
  have e12 : ∀ {L : am_L} {o o' : Nat} {σ : am_M}, am_w X 10 0 12 L [.ref o, .ref o'] σ = (am_v X 10 123 [.ref o] σ).bind fun w => am_w X 10 0 15 L (am_pu w.1 [.ref o']) w.2 := am_s (by decide +kernel : am_fe 0 12 = some (false, true, .invokespecial 12, [1, 123, 0, 897]))
  rw [e0, s0_3, e4, n0]
  have l0 : (am_S (am_qm ([], [], []))).length = 0 := rfl
  rw [l0]
  show (am_v X 10 85 [.ref (0 : Nat)] (am_qm ([(10, 11)], [], []))).bind _ = _
  rw [v1, Option.bind_some]
  show am_w X 10 0 7 _ [.ref (0 : Nat)] (am_qm t) = _
  rw [s0_7, e8, s0_11, e12, n1]
  have l1 : (am_S (am_qm t)).length = 66 := h2
  rw [l1, v2, Option.bind_some]
  show am_w X 10 0 15 _ [.ref (66 : Nat)] (am_qm t2) = _
  rw [s0_15, s0_16, s0_17]
