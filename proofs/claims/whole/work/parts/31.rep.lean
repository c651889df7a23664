/-! THE STATE as a mathematical value: S component i j; the class' part and the model's part of one memory that stand for it -/
abbrev am_St : Type := Nat → Nat → Nat → Nat
def nsC (o : Nat) (_ : Nat) : Bool := Nat.blt o 3 || (Nat.ble 8 o && Nat.blt o 54)
def nsM (o k : Nat) : Bool := (Nat.ble 67 o && Nat.ble o 79) || (Nat.ble 89 o || (Nat.beq o 66 && (Nat.beq k 3 || Nat.beq k 4 || Nat.beq k 5 || Nat.beq k 12 || Nat.beq k 16 || Nat.beq k 42 || Nat.beq k 43 || Nat.beq k 44)))
def nsB (o k : Nat) : Bool := nsC o k || nsM o k
def nsA (o k : Nat) : Bool := nsB o k || ((Nat.ble 57 o && Nat.ble o 65) || (Nat.ble 86 o && Nat.ble o 88))
/-- what is P stays; the layout; all long numbers -/
def am_pr (P : Nat → Nat → Bool) (σ σ' : am_M) : Prop := am_F σ' ∧ (∀ o k, P o k = true → am_I σ' o k = am_I σ o k) ∧ ∀ o k, am_J σ' o k = am_J σ o k
theorem am_pr.rf {P : Nat → Nat → Bool} {σ : am_M} (h : am_F σ) : am_pr P σ σ := ⟨h, fun _ _ _ => rfl, fun _ _ => rfl⟩
theorem am_pr.tr {P : Nat → Nat → Bool} {σ σ1 σ2 : am_M} (h1 : am_pr P σ σ1) (h2 : am_pr P σ1 σ2) : am_pr P σ σ2 := ⟨h2.1, fun o k h => (h2.2.1 o k h).trans (h1.2.1 o k h), fun o k => (h2.2.2 o k).trans (h1.2.2 o k)⟩
theorem am_pr.mo {P P' : Nat → Nat → Bool} {σ σ1 : am_M} (h1 : am_pr P σ σ1) (h : ∀ o k, P' o k = true → P o k = true) : am_pr P' σ σ1 := ⟨h1.1, fun o k q => h1.2.1 o k (h o k q), h1.2.2⟩
theorem am_pr.w {P : Nat → Nat → Bool} {σ σ1 : am_M} {o k : Nat} {v : Int32} (h1 : am_pr P σ σ1) (h : P o k = false) : am_pr P σ (am_wI σ1 o k v) := ⟨h1.1, fun a j q => by
  rw [am_I_wI, if_neg (fun e => by rw [e.1, e.2, h] at q; cases q)]
  exact h1.2.1 a j q, h1.2.2⟩
/-- the same, but long numbers -/
def am_pi (P : Nat → Nat → Bool) (σ σ' : am_M) : Prop := am_F σ' ∧ ∀ o k, P o k = true → am_I σ' o k = am_I σ o k
theorem am_pr.i {P : Nat → Nat → Bool} {σ σ1 : am_M} (h : am_pr P σ σ1) : am_pi P σ σ1 := ⟨h.1, h.2.1⟩
theorem am_pi.rf {P : Nat → Nat → Bool} {σ : am_M} (h : am_F σ) : am_pi P σ σ := ⟨h, fun _ _ _ => rfl⟩
theorem am_pi.tr {P : Nat → Nat → Bool} {σ σ1 σ2 : am_M} (h1 : am_pi P σ σ1) (h2 : am_pi P σ1 σ2) : am_pi P σ σ2 := ⟨h2.1, fun o k h => (h2.2 o k h).trans (h1.2 o k h)⟩
theorem am_pi.mo {P P' : Nat → Nat → Bool} {σ σ1 : am_M} (h1 : am_pi P σ σ1) (h : ∀ o k, P' o k = true → P o k = true) : am_pi P' σ σ1 := ⟨h1.1, fun o k q => h1.2 o k (h o k q)⟩
theorem am_pi.w {P : Nat → Nat → Bool} {σ σ1 : am_M} {o k : Nat} {v : Int32} (h1 : am_pi P σ σ1) (h : P o k = false) : am_pi P σ (am_wI σ1 o k v) := ⟨h1.1, fun a j q => by
  rw [am_I_wI, if_neg (fun e => by rw [e.1, e.2, h] at q; cases q)]
  exact h1.2 a j q⟩
theorem am_pi.wJ {P : Nat → Nat → Bool} {σ σ1 : am_M} {o k : Nat} {v : Int64} (h1 : am_pi P σ σ1) : am_pi P σ (am_wJ σ1 o k v) := ⟨h1.1, h1.2⟩
theorem am_pi.A_C {σ σ1 : am_M} (h : am_pi nsA σ σ1) : am_pi nsC σ σ1 := h.mo fun o k q => by unfold nsA nsB; rw [q]; rfl
theorem am_pi.A_M {σ σ1 : am_M} (h : am_pi nsA σ σ1) : am_pi nsM σ σ1 := h.mo fun o k q => by unfold nsA nsB; rw [q, Bool.or_true]; rfl
theorem am_pr.A_C {σ σ1 : am_M} (h : am_pr nsA σ σ1) : am_pr nsC σ σ1 := h.mo fun o k q => by unfold nsA nsB; rw [q]; rfl
theorem am_pr.A_M {σ σ1 : am_M} (h : am_pr nsA σ σ1) : am_pr nsM σ σ1 := h.mo fun o k q => by unfold nsA nsB; rw [q, Bool.or_true]; rfl
/-! the parts -/
def cTun (σ : am_M) (o n : Nat) (B W : Nat → Nat) : Prop := am_I σ o 2 = nI n ∧ (∀ j, j < 60 → am_I σ (o + 1) j = nI (B j)) ∧ ∀ g, g < 4 → am_I σ (o + 2) g = nI (W g)
def cGat (σ : am_M) (o k t w p q : Nat) : Prop := am_I σ o 1 = nI k ∧ am_I σ o 2 = nI t ∧ am_I σ o 3 = nI w ∧ am_I σ o 4 = nI p ∧ am_I σ o 5 = nI q
def cSee (σ : am_M) (o n : Nat) (G P V : Nat → Nat) : Prop := am_I σ o 3 = nI n ∧ ∀ j, j < 8 → am_I σ (o + 1) j = nI (G j) ∧ am_I σ (o + 2) j = nI (P j) ∧ am_I σ (o + 3) j = nI (V j)
/-- a World at o; c: 0, or 20 for what is kept -/
def cWld (σ : am_M) (o : Nat) (S : am_St) (c : Nat) : Prop := am_I σ o 3 = nI (S (c + 4) 0 0) ∧ (∀ b, b < 4 → cTun σ (o + 7 + 3 * b) (S (c + 1) b 0) (S c b) (S (c + 3) b) ∧ (0 < S (c + 1) b 0 → am_I σ (o + 7 + 3 * b) 3 = nI (S (c + 2) b 0))) ∧
  (∀ g, g < 4 → cGat σ (o + 19 + g) (S (c + 5) g 0) (S (c + 6) g 0) (S (c + 7) g 0) (S (c + 8) g 0) (S (c + 9) g 0)) ∧ cSee σ (o + 3) (S (c + 10) 0 0) (fun j => S (c + 11) j 0) (fun j => S (c + 12) j 0) (fun j => S (c + 13) j 0)
def cRep (S : am_St) (σ : am_M) : Prop := am_F σ ∧ cWld σ 8 S 0 ∧ (S 18 0 0 = 1 → cWld σ 31 S 20) ∧ (am_I σ 1 1 = nI (S 14 0 0) ∧ ∀ j, j < S 14 0 0 → am_I σ 2 j = nI (S 15 j 0)) ∧ (∀ g, g < 4 → am_I σ (27 + g) 0 = nI g) ∧ am_I σ 0 8 = nI (S 18 0 0) ∧ am_I σ 0 9 = nI (S 16 0 0) ∧ am_I σ 0 10 = nI (S 17 0 0)
def mWld (σ : am_M) (oB oN oD oT oWd oPa oOw oWn oG oP oV : Nat) (S : am_St) (c : Nat) : Prop := (∀ b, b < 4 → (∀ j, j < 60 → am_I σ oB (60 * b + j) = nI (S c b j)) ∧ am_I σ oN b = nI (S (c + 1) b 0) ∧ (0 < S (c + 1) b 0 → am_I σ oD b = nI (S (c + 2) b 0)) ∧ ∀ g, g < 4 → am_I σ oWn (4 * b + g) = nI (S (c + 3) b g)) ∧
  (∀ g, g < 4 → am_I σ oT g = nI (S (c + 6) g 0) ∧ am_I σ oWd g = nI (S (c + 7) g 0) ∧ am_I σ oPa g = nI (S (c + 8) g 0) ∧ am_I σ oOw g = nI (S (c + 9) g 0)) ∧ ∀ j, j < 8 → am_I σ oG j = nI (S (c + 11) j 0) ∧ am_I σ oP j = nI (S (c + 12) j 0) ∧ am_I σ oV j = nI (S (c + 13) j 0)
def mRep (S : am_St) (σ : am_M) : Prop := am_F σ ∧ mWld σ 67 68 69 71 72 73 74 75 76 77 78 S 0 ∧ (∀ g, g < 4 → am_I σ 70 g = nI (S 5 g 0)) ∧ am_I σ 66 5 = nI (S 4 0 0) ∧ am_I σ 66 12 = nI (S 10 0 0) ∧ (am_I σ 66 16 = nI (S 14 0 0) ∧ ∀ j, j < S 14 0 0 → am_I σ 79 j = nI (S 15 j 0)) ∧ am_I σ 66 4 = nI (S 16 0 0) ∧ am_I σ 66 3 = nI (S 17 0 0) ∧
  (S 18 0 0 = 1 → mWld σ 89 90 91 92 93 94 95 96 97 98 99 S 20 ∧ am_I σ 66 42 = nI 1 ∧ am_I σ 66 43 = nI (S 16 0 0) ∧ am_I σ 66 44 = nI (S 30 0 0)) ∧ (¬ S 18 0 0 = 1 → am_I σ 66 42 = nI 0 ∨ (am_I σ 66 42 = nI 1 ∧ ∃ r, r < S 16 0 0 ∧ am_I σ 66 43 = nI r))
/-- what is so of every state that calls reach; N: how many calls there were -/
def wOK (S : am_St) (c : Nat) : Prop := (∀ b, b < 4 → S (c + 1) b 0 ≤ 60 ∧ (∀ j, j < 60 → S c b j < 128) ∧ S (c + 2) b 0 ≤ 40 ∧ ∀ g, g < 4 → S (c + 3) b g ≤ 99) ∧ S (c + 4) 0 0 ≤ 4 ∧ (∀ g, g < 4 → S (c + 5) g 0 ≤ 4 ∧ S (c + 6) g 0 ≤ 99 ∧ S (c + 7) g 0 ≤ 6) ∧ S (c + 10) 0 0 ≤ 8 ∧ ∀ j, j < 8 → S (c + 11) j 0 < 4 ∧ S (c + 12) j 0 ≤ 2000 ∧ S (c + 13) j 0 ≤ 1
def sOK (N : Nat) (S : am_St) : Prop := wOK S 0 ∧ (S 14 0 0 ≤ 40 ∧ ∀ j, j < S 14 0 0 → 32 ≤ S 15 j 0 ∧ S 15 j 0 ≤ 126) ∧ S 16 0 0 ≤ N ∧ S 18 0 0 ≤ 1 ∧ (S 18 0 0 = 1 → wOK S 20 ∧ S 24 0 0 = S 4 0 0 ∧ ∀ g, g < 4 → S 25 g 0 = S 5 g 0)
theorem cTun.pr {σ σ' : am_M} {o n : Nat} {B W : Nat → Nat} (h : cTun σ o n B W) (hp : ∀ a k, o ≤ a → a ≤ o + 2 → am_I σ' a k = am_I σ a k) : cTun σ' o n B W := by
  obtain ⟨h1, h2, h3⟩ := h
  exact ⟨by rw [hp o 2 (by omega) (by omega)]; exact h1, fun j hj => by rw [hp (o + 1) j (by omega) (by omega)]; exact h2 j hj, fun g hg => by rw [hp (o + 2) g (by omega) (by omega)]; exact h3 g hg⟩
theorem cGat.pr {σ σ' : am_M} {o k t w p q : Nat} (h : cGat σ o k t w p q) (hp : ∀ j, am_I σ' o j = am_I σ o j) : cGat σ' o k t w p q := by
  obtain ⟨h1, h2, h3, h4, h5⟩ := h
  exact ⟨by rw [hp]; exact h1, by rw [hp]; exact h2, by rw [hp]; exact h3, by rw [hp]; exact h4, by rw [hp]; exact h5⟩
theorem cSee.pr {σ σ' : am_M} {o n : Nat} {G P V : Nat → Nat} (h : cSee σ o n G P V) (hp : ∀ a k, o ≤ a → a ≤ o + 3 → am_I σ' a k = am_I σ a k) : cSee σ' o n G P V := by
  obtain ⟨h1, h2⟩ := h
  refine ⟨by rw [hp o 3 (by omega) (by omega)]; exact h1, fun j hj => ?_⟩
  rw [hp (o + 1) j (by omega) (by omega), hp (o + 2) j (by omega) (by omega), hp (o + 3) j (by omega) (by omega)]
  exact h2 j hj
theorem cWld.pr {σ σ' : am_M} {o c : Nat} {S : am_St} (h : cWld σ o S c) (hp : ∀ a k, o ≤ a → a ≤ o + 22 → am_I σ' a k = am_I σ a k) : cWld σ' o S c := by
  obtain ⟨h1, h2, h3, h4⟩ := h
  refine ⟨by rw [hp o 3 (by omega) (by omega)]; exact h1, fun b hb => ⟨(h2 b hb).1.pr fun a k q1 q2 => hp a k (by omega) (by omega), fun h0 => ?_⟩, fun g hg => (h3 g hg).pr fun j => hp _ j (by omega) (by omega), h4.pr fun a k q1 q2 => hp a k (by omega) (by omega)⟩
  rw [hp (o + 7 + 3 * b) 3 (by omega) (by omega)]
  exact (h2 b hb).2 h0
theorem nsC_in {o k : Nat} (h : o < 3 ∨ (8 ≤ o ∧ o < 54)) : nsC o k = true := by
  unfold nsC
  rcases h with h | ⟨h1, h2⟩
  · have hb : Nat.blt o 3 = true := Nat.ble_eq_true_of_le (show o + 1 ≤ 3 by omega)
    rw [hb]
    rfl
  · have hb : Nat.blt o 54 = true := Nat.ble_eq_true_of_le (show o + 1 ≤ 54 by omega)
    rw [Nat.ble_eq_true_of_le h1, hb, Bool.and_true, Bool.or_true]
theorem cRep.pi {S : am_St} {σ σ' : am_M} (h : cRep S σ) (hp : am_pi nsC σ σ') : cRep S σ' := by
  obtain ⟨h1, h2, h3, h4, h5, h6, h7, h8⟩ := h
  have q : ∀ a k, (a < 3 ∨ (8 ≤ a ∧ a < 54)) → am_I σ' a k = am_I σ a k := fun a k h => hp.2 a k (nsC_in h)
  refine ⟨hp.1, h2.pr fun a k _ _ => q a k (by omega), fun h => (h3 h).pr fun a k _ _ => q a k (by omega), ⟨by rw [q 1 1 (by omega)]; exact h4.1, fun j hj => by rw [q 2 j (by omega)]; exact h4.2 j hj⟩, fun g hg => by rw [q (27 + g) 0 (by omega)]; exact h5 g hg, by rw [q 0 8 (by omega)]; exact h6, by rw [q 0 9 (by omega)]; exact h7, by rw [q 0 10 (by omega)]; exact h8⟩
theorem nsM_in {o k : Nat} (h : (67 ≤ o ∧ o ≤ 79) ∨ 89 ≤ o) : nsM o k = true := by
  unfold nsM
  rcases h with ⟨h1, h2⟩ | h
  · rw [Nat.ble_eq_true_of_le h1, Nat.ble_eq_true_of_le h2]; rfl
  · rw [Nat.ble_eq_true_of_le h, Bool.true_or, Bool.or_true]
theorem mWld.pr {σ σ' : am_M} {oB oN oD oT oWd oPa oOw oWn oG oP oV c : Nat} {S : am_St} (h : mWld σ oB oN oD oT oWd oPa oOw oWn oG oP oV S c) (hp : ∀ a k, a ∈ [oB, oN, oD, oT, oWd, oPa, oOw, oWn, oG, oP, oV] → am_I σ' a k = am_I σ a k) : mWld σ' oB oN oD oT oWd oPa oOw oWn oG oP oV S c := by
  obtain ⟨h1, h2, h3⟩ := h
  refine ⟨fun b hb => ?_, fun g hg => ?_, fun j hj => ?_⟩
  · obtain ⟨a1, a2, a3, a4⟩ := h1 b hb
    exact ⟨fun j hj => by rw [hp oB _ (by simp)]; exact a1 j hj, by rw [hp oN _ (by simp)]; exact a2, fun h0 => by rw [hp oD _ (by simp)]; exact a3 h0, fun g hg => by rw [hp oWn _ (by simp)]; exact a4 g hg⟩
  · rw [hp oT _ (by simp), hp oWd _ (by simp), hp oPa _ (by simp), hp oOw _ (by simp)]
    exact h2 g hg
  · rw [hp oG _ (by simp), hp oP _ (by simp), hp oV _ (by simp)]
    exact h3 j hj
theorem mRep.pi {S : am_St} {σ σ' : am_M} (h : mRep S σ) (hp : am_pi nsM σ σ') : mRep S σ' := by
  obtain ⟨h1, h2, h3, h4, h5, h6, h7, h8, h9, h10⟩ := h
  have q : ∀ a k, ((67 ≤ a ∧ a ≤ 79) ∨ 89 ≤ a) → am_I σ' a k = am_I σ a k := fun a k h => hp.2 a k (nsM_in h)
  have e3 : am_I σ' 66 3 = am_I σ 66 3 := hp.2 66 3 (by decide)
  have e4 : am_I σ' 66 4 = am_I σ 66 4 := hp.2 66 4 (by decide)
  have e5 : am_I σ' 66 5 = am_I σ 66 5 := hp.2 66 5 (by decide)
  have e12 : am_I σ' 66 12 = am_I σ 66 12 := hp.2 66 12 (by decide)
  have e16 : am_I σ' 66 16 = am_I σ 66 16 := hp.2 66 16 (by decide)
  have e42 : am_I σ' 66 42 = am_I σ 66 42 := hp.2 66 42 (by decide)
  have e43 : am_I σ' 66 43 = am_I σ 66 43 := hp.2 66 43 (by decide)
  have e44 : am_I σ' 66 44 = am_I σ 66 44 := hp.2 66 44 (by decide)
  refine ⟨hp.1, h2.pr fun a k ha => q a k (by simp at ha; omega), fun g hg => by rw [q 70 g (by omega)]; exact h3 g hg, by rw [e5]; exact h4, by rw [e12]; exact h5, ⟨by rw [e16]; exact h6.1, fun j hj => by rw [q 79 j (by omega)]; exact h6.2 j hj⟩, by rw [e4]; exact h7, by rw [e3]; exact h8, fun h => ?_, fun h => ?_⟩
  · obtain ⟨a1, a2, a3, a4⟩ := h9 h
    exact ⟨a1.pr fun a k ha => q a k (by simp at ha; omega), by rw [e42]; exact a2, by rw [e43]; exact a3, by rw [e44]; exact a4⟩
  · rw [e42, e43]
    exact h10 h

theorem cRep.pr {S : am_St} {σ σ' : am_M} (h : cRep S σ) (hp : am_pr nsC σ σ') : cRep S σ' := h.pi hp.i
theorem mRep.pr {S : am_St} {σ σ' : am_M} (h : mRep S σ) (hp : am_pr nsM σ σ') : mRep S σ' := h.pi hp.i
theorem cRep.piA {S : am_St} {σ σ' : am_M} (h : cRep S σ) (hp : am_pi nsA σ σ') : cRep S σ' := h.pi hp.A_C
theorem mRep.piA {S : am_St} {σ σ' : am_M} (h : mRep S σ) (hp : am_pi nsA σ σ') : mRep S σ' := h.pi hp.A_M
theorem am_pi.B_C {σ σ1 : am_M} (h : am_pi nsB σ σ1) : am_pi nsC σ σ1 := h.mo fun o k q => by unfold nsB; rw [q]; rfl
theorem am_pi.B_M {σ σ1 : am_M} (h : am_pi nsB σ σ1) : am_pi nsM σ σ1 := h.mo fun o k q => by unfold nsB; rw [q, Bool.or_true]
theorem am_pr.A_B {σ σ1 : am_M} (h : am_pr nsA σ σ1) : am_pr nsB σ σ1 := h.mo fun o k q => by unfold nsA; rw [q]; rfl
theorem cRep.piB {S : am_St} {σ σ' : am_M} (h : cRep S σ) (hp : am_pi nsB σ σ') : cRep S σ' := h.pi hp.B_C
theorem mRep.piB {S : am_St} {σ σ' : am_M} (h : mRep S σ) (hp : am_pi nsB σ σ') : mRep S σ' := h.pi hp.B_M
theorem nsA_65 (k : Nat) : nsA 65 k = true := rfl
theorem nsA_88 (k : Nat) : nsA 88 k = true := rfl
