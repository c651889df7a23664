/-! loops that change the memory; the digest -/
theorem am_lps {α β : Type} (F : Nat → α → am_M → β) (f : Nat → α → α) (n : Nat) (P : Nat → α → am_M → Prop) (h : ∀ i a σ, i < n → P i a σ → ∃ σ', F i a σ = F (i + 1) (f i a) σ' ∧ P (i + 1) (f i a) σ') : ∀ k i a σ, i + k = n → P i a σ → ∃ σ', F i a σ = F n (am_fd f i k a) σ' ∧ P n (am_fd f i k a) σ'
  | 0, i, a, σ, hk, hp => by
    have : i = n := by omega
    subst this
    exact ⟨σ, rfl, hp⟩
  | k + 1, i, a, σ, hk, hp => by
    obtain ⟨σ1, e1, p1⟩ := h i a σ (by omega) hp
    obtain ⟨σ2, e2, p2⟩ := am_lps F f n P h k (i + 1) (f i a) σ1 (by omega) p1
    exact ⟨σ2, e1.trans e2, p2⟩
theorem am_fd_fst {α β : Type} (f : Nat → α → α) (c : β) : ∀ n i (p : α × β), (am_fd (fun i p => (f i p.1, c)) i n p).1 = am_fd f i n p.1
  | 0, _, _ => rfl
  | n + 1, i, p => am_fd_fst f c n (i + 1) _
theorem gI_s {S : am_St} {g : Nat} (hg : g < S 4 0 0) (hg4 : g < 4) (hG : S 4 0 0 ≤ 4 := by omega) : gI S (nI g) = some g := by
  unfold gI
  rw [if_neg (pk_nN hg (by omega)), nI_cl (by omega)]
def mixI (h : Int64) (v : Int32) : Int64 := 31 * h + v.toInt64
def dgT (S : am_St) (b : Nat) (h : Int64) : Int64 := am_fd (fun g h => mixI (mixI (mixI h (rPays S (nI b) (nI g))) (rWorn S (nI b) (nI g))) (rShort S (nI b) (nI g))) 0 (S 4 0 0) (am_fd (fun k h => mixI h (nI (S 0 b k))) 0 (S 1 b 0) (am_fd (fun k h => mixI h (rTune S (nI b) (nI k))) 1 8 h))
def dgK (S : am_St) (b : Nat) (h : Int64) : Int64 := if 0 < S 1 b 0 then dgT S b (mixI h (nI (S 1 b 0))) else mixI h (-1)
def dgG (S : am_St) (g : Nat) (h : Int64) : Int64 := am_fd (fun k h => mixI h (rGate S (nI g) (nI k))) 0 9 h
def dgP (S : am_St) (h : Int64) : Int64 := am_fd (fun k h => mixI h (rSn S k)) 10 4 (mixI (mixI h (rSn S 0)) (rSn S 1))
def rDigest (S : am_St) : Int64 :=
  let h1 := am_fd (dgK S) 0 4 1109
  let h2 := am_fd (dgG S) 0 (S 4 0 0) h1
  let h3 := if 0 < S 4 0 0 then dgP S h2 else h2
  let h4 := am_fd (fun k h => mixI h (nI (S 15 k 0))) 0 (S 14 0 0) h3
  am_fd (fun k h => mixI h (rCount S (nI k))) 0 11 h4
section DG
variable {X : am_X} {d N : Nat} {σ : am_M} {S : am_St}
theorem cRep.prB {σ' : am_M} (h : cRep S σ) (hp : am_pr nsB σ σ') : cRep S σ' := h.piB hp.i
theorem mRep.prB {σ' : am_M} (h : mRep S σ) (hp : am_pr nsB σ σ') : mRep S σ' := h.piB hp.i
theorem c115 (h : cRep S σ) (hO : sOK N S) {b : Nat} (hb : b < 4) (v : Int64) : ∃ σ', am_v X (d + 8) 115 [.ref (0 : Nat), .long v, .int (nI b)] σ = some (some (.long (dgK S b v)), σ') ∧ am_pr nsB σ σ' := by
  have hF := h.1
  have hG := sO_G hO
  unfold dgK
  by_cases h0 : 0 < S 1 b 0
  · rw [if_pos h0]
    have hN := sO_N hO hb
    have hT := isTu8 hb
    obtain ⟨σ1, e1, p1⟩ := am_lps (fun k v1 σ1 => am_w X (d + 7) 115 42 [some (.ref (0 : Nat)), some (.long v), none, some (.int (nI b)), some (.ref (15 + 3 * b)), some (.long v1), none, some (.int (nI k))] [] σ1) (fun k h => mixI h (rTune S (nI b) (nI k))) 9 (fun _ _ σ1 => am_pr nsB σ σ1) (fun k v1 σ1 hk hp => by
      have h1 := h.prB hp
      have c0 : ¬ nI 8 < nI k := nI_nlt (by omega) (by decide)
      obtain ⟨σ2, e2, hp2⟩ := c93 (X := X) (d := d) (v := nI b) (w := nI k) h1 hO
      refine ⟨σ2, ?_, hp.tr hp2.A_B⟩
      try dsimp only
      rw [s115_42]
      simp only [s115_44, s115_46, s115_49, s115_52, s115_54, s115_55, s115_56, s115_57, s115_59, s115_62, s115_63, s115_64, s115_64i, s115_64r, s115_66, s115_66i, s115_66r, s115_69, am_pu_s, am_pu_n, va_rf_s, va_rf_n, Option.bind_some, true_or, or_true, eq_self, if_true, if_false, ite_self, ite_true, ite_false, ↓reduceIte, reduceCtorEq, Nat.reduceEqDiff, Nat.reduceAdd, Nat.reduceLT, Nat.reduceLeDiff, Nat.reduceMul, Nat.reduceSub, not_true_eq_false, not_false_eq_true, and_self, and_true, true_and, and_false, false_and, h1.1, kd0, c0, e2, nI_add]
      rfl) 8 1 (mixI v (nI (S 1 b 0))) σ (by omega) (am_pr.rf hF)
    obtain ⟨σ2, e2, p2⟩ := am_lps (fun k v1 σ1 => am_w X (d + 7) 115 75 [some (.ref (0 : Nat)), some (.long v), none, some (.int (nI b)), some (.ref (15 + 3 * b)), some (.long v1), none, some (.int (nI k))] [] σ1) (fun k h => mixI h (nI (S 0 b k))) (S 1 b 0) (fun _ _ σ1 => am_pr nsB σ σ1) (fun k v1 σ1 hk hp => by
      have h1 := h.prB hp
      have c0 : ¬ nI (S 1 b 0) ≤ nI k := nI_ge (by omega) (by omega)
      have e2 := m51 (X := X) (d := d + 6) h1.1 hT (cR_T h1 hb) hN (show k ≤ 60 by omega)
      rw [if_pos hk] at e2
      refine ⟨σ1, ?_, hp⟩
      try dsimp only
      rw [s115_75]
      simp only [s115_77, s115_77n, s115_79, s115_82, s115_85, s115_88, s115_90, s115_91, s115_91n, s115_93, s115_95, s115_98, s115_99, s115_100, s115_100i, s115_100r, s115_102, s115_102i, s115_102r, s115_105, am_pu_s, am_pu_n, va_rf_s, va_rf_n, Option.bind_some, true_or, or_true, eq_self, if_true, if_false, ite_self, ite_true, ite_false, ↓reduceIte, reduceCtorEq, Nat.reduceEqDiff, Nat.reduceAdd, Nat.reduceLT, Nat.reduceLeDiff, Nat.reduceMul, Nat.reduceSub, not_true_eq_false, not_false_eq_true, and_self, and_true, true_and, and_false, false_and, h1.1, kdT h1.1 hT, cR_N h1 hb, c0, e2, nI_add]
      rfl) (S 1 b 0) 0 (am_fd (fun k h => mixI h (rTune S (nI b) (nI k))) 1 8 (mixI v (nI (S 1 b 0)))) σ1 (by omega) p1
    obtain ⟨σ3, e3, p3⟩ := am_lps (fun k v1 σ1 => am_w X (d + 7) 115 111 [some (.ref (0 : Nat)), some (.long v), none, some (.int (nI b)), some (.ref (15 + 3 * b)), some (.long v1), none, some (.int (nI k))] [] σ1) (fun g h => mixI (mixI (mixI h (rPays S (nI b) (nI g))) (rWorn S (nI b) (nI g))) (rShort S (nI b) (nI g))) (S 4 0 0) (fun _ _ σ1 => am_pr nsB σ σ1) (fun k v1 σ1 hk hp => by
      have h1 := h.prB hp
      have c0 : ¬ nI (S 4 0 0) ≤ nI k := nI_ge (by omega) (by omega)
      obtain ⟨σ2, e2, hp2⟩ := c100 (X := X) (d := d + 1) (v := nI b) (w := nI k) h1 hO
      have h2 := h1.prB hp2.A_B
      have e3 := c101 (X := X) (d := d + 5) (v := nI b) (w := nI k) h2 hO
      obtain ⟨σ4, e4, hp4⟩ := c105 (X := X) (d := d + 1) (v := nI b) (w := nI k) h2 hO
      refine ⟨σ4, ?_, (hp.tr hp2.A_B).tr hp4.A_B⟩
      try dsimp only
      rw [s115_111]
      simp only [s115_113, s115_114, s115_117, s115_120, s115_123, s115_126, s115_128, s115_129, s115_130, s115_131, s115_133, s115_136, s115_137, s115_138, s115_138i, s115_138r, s115_140, s115_143, s115_145, s115_146, s115_147, s115_148, s115_150, s115_153, s115_154, s115_155, s115_155i, s115_155r, s115_157, s115_160, s115_162, s115_163, s115_164, s115_165, s115_167, s115_170, s115_171, s115_172, s115_172i, s115_172r, s115_174, s115_174i, s115_174r, s115_177, am_pu_s, am_pu_n, va_rf_s, va_rf_n, Option.bind_some, true_or, or_true, eq_self, if_true, if_false, ite_self, ite_true, ite_false, ↓reduceIte, reduceCtorEq, Nat.reduceEqDiff, Nat.reduceAdd, Nat.reduceLT, Nat.reduceLeDiff, Nat.reduceMul, Nat.reduceSub, not_true_eq_false, not_false_eq_true, and_self, and_true, true_and, and_false, false_and, h1.1, h2.1, hp4.1, kd0, kd8, rr0_2, cR_G h1, c0, e2, e3, e4, nI_add]
      rfl) (S 4 0 0) 0 (am_fd (fun k h => mixI h (nI (S 0 b k))) 0 (S 1 b 0) (am_fd (fun k h => mixI h (rTune S (nI b) (nI k))) 1 8 (mixI v (nI (S 1 b 0))))) σ2 (by omega) p2
    refine ⟨σ3, ?_, p3⟩
    have h1 := h.prB p1
    have h2 := h.prB p2
    have h3 := h.prB p3
    have c1 : nI 8 < nI 9 := by decide +kernel
    rw [s115]
    simp only [s115_0, s115_1, s115_4, s115_5, s115_8, s115_8n, s115_8i, s115_8in, s115_8r, s115_8rn, s115_10, s115_10n, s115_12n, s115_12, s115_15, s115_18, s115_19, s115_20, s115_23, s115_24, s115_25, s115_28, s115_29, s115_30, s115_30n, s115_32, s115_35, s115_36, s115_37, s115_37i, s115_37r, s115_39, s115_40, s115_40i, s115_40r, am_pu_s, am_pu_n, va_rf_s, va_rf_n, Option.bind_some, true_or, or_true, eq_self, if_true, if_false, ite_self, ite_true, ite_false, ↓reduceIte, reduceCtorEq, Nat.reduceEqDiff, Nat.reduceAdd, Nat.reduceLT, Nat.reduceLeDiff, Nat.reduceMul, Nat.reduceSub, not_true_eq_false, not_false_eq_true, and_self, and_true, true_and, and_false, false_and, hF, kd0, kd8, rr0_2, m76s h hO hb h0, kdT hF hT, cR_N h hb]
    refine Eq.trans e1 ?_
    try dsimp only
    rw [s115_42]
    simp only [s115_44, s115_46, s115_72, s115_73, s115_73i, s115_73r, am_pu_s, am_pu_n, va_rf_s, va_rf_n, Option.bind_some, true_or, or_true, eq_self, if_true, if_false, ite_self, ite_true, ite_false, ↓reduceIte, reduceCtorEq, Nat.reduceEqDiff, Nat.reduceAdd, Nat.reduceLT, Nat.reduceLeDiff, Nat.reduceMul, Nat.reduceSub, not_true_eq_false, not_false_eq_true, and_self, and_true, true_and, and_false, false_and, c1]
    refine Eq.trans e2 ?_
    try dsimp only
    rw [s115_75]
    simp only [s115_77, s115_77n, s115_79, s115_82, s115_108, s115_109, s115_109i, s115_109r, am_pu_s, am_pu_n, va_rf_s, va_rf_n, Option.bind_some, true_or, or_true, eq_self, if_true, if_false, ite_self, ite_true, ite_false, ↓reduceIte, reduceCtorEq, Nat.reduceEqDiff, Nat.reduceAdd, Nat.reduceLT, Nat.reduceLeDiff, Nat.reduceMul, Nat.reduceSub, not_true_eq_false, not_false_eq_true, and_self, and_true, true_and, and_false, false_and, h2.1, kdT h2.1 hT, cR_N h2 hb, Int32.le_refl]
    refine Eq.trans e3 ?_
    try dsimp only
    rw [s115_111]
    simp only [s115_113, s115_114, s115_117, s115_120, s115_180, s115_182, am_pu_s, am_pu_n, va_rf_s, va_rf_n, Option.bind_some, true_or, or_true, eq_self, if_true, if_false, ite_self, ite_true, ite_false, ↓reduceIte, reduceCtorEq, Nat.reduceEqDiff, Nat.reduceAdd, Nat.reduceLT, Nat.reduceLeDiff, Nat.reduceMul, Nat.reduceSub, not_true_eq_false, not_false_eq_true, and_self, and_true, true_and, and_false, false_and, h3.1, kd0, kd8, rr0_2, cR_G h3, Int32.le_refl]
    rfl
  · rw [if_neg h0]
    refine ⟨σ, ?_, am_pr.rf hF⟩
    rw [s115]
    have e : mixI v (-1) = 31 * v + (-1 : Int64) := rfl
    simp only [s115_0, s115_1, s115_4, s115_5, s115_8, s115_8n, s115_8i, s115_8in, s115_8r, s115_8rn, s115_10, s115_10n, s115_12n, s115_12, s115_15, s115_18, s115_19, s115_20, s115_23, s115_24, am_pu_s, am_pu_n, va_rf_s, va_rf_n, Option.bind_some, true_or, or_true, eq_self, if_true, if_false, ite_self, ite_true, ite_false, ↓reduceIte, reduceCtorEq, Nat.reduceEqDiff, Nat.reduceAdd, Nat.reduceLT, Nat.reduceLeDiff, Nat.reduceMul, Nat.reduceSub, not_true_eq_false, not_false_eq_true, and_self, and_true, true_and, and_false, false_and, hF, kd0, kd8, rr0_2, m76n h (tI_0 hb (show S 1 b 0 = 0 by omega)), e]
theorem c116 (h : cRep S σ) (hO : sOK N S) (v : Int64) : ∃ σ', am_v X (d + 8) 116 [.ref (0 : Nat), .long v] σ = some (some (.long (dgP S v)), σ') ∧ am_pr nsB σ σ' := by
  have hF := h.1
  obtain ⟨σ1, e1, q1⟩ := m26 (X := X) (d := d) h hO
  have hp := q1.1
  have hF1 := hp.1
  have b4 := q1.2.2.2
  obtain ⟨σ2, e2, p2⟩ := am_lps (fun k v1 σ2 => am_w X (d + 7) 116 48 [some (.ref (0 : Nat)), some (.long v), none, some (.long v1), none, some (.int (nI (k - 10)))] [] σ2) (fun k h => mixI h (rSn S k)) 14 (fun k _ σ2 => 10 ≤ k ∧ σ2 = σ1) (fun k v1 σ2 hk hp2 => by
    obtain ⟨hk1, rfl⟩ := hp2
    have c0 : ¬ nI 4 ≤ nI (k - 10) := nI_ge (by omega) (by decide)
    have e4 : rSn S k = wM (sD S (sSe S).2.2 (k - 10)) := by
      unfold rSn
      rw [if_neg (by omega), if_neg (by omega)]
    refine ⟨σ2, ?_, by omega, rfl⟩
    try dsimp only
    rw [s116_48, e4, show k + 1 - 10 = k - 10 + 1 by omega]
    simp only [s116_50, s116_51, s116_54, s116_57, s116_58, s116_59, s116_60, s116_63, s116_65, s116_68, s116_69, s116_70, s116_70i, s116_70r, s116_71, s116_71i, s116_71r, s116_74, am_pu_s, am_pu_n, va_rf_s, va_rf_n, Option.bind_some, true_or, or_true, eq_self, if_true, if_false, ite_self, ite_true, ite_false, ↓reduceIte, reduceCtorEq, Nat.reduceEqDiff, Nat.reduceAdd, Nat.reduceLT, Nat.reduceLeDiff, Nat.reduceMul, Nat.reduceSub, not_true_eq_false, not_false_eq_true, and_self, and_true, true_and, and_false, false_and, hF1, kd0, kd57, rr0_6, c0, m27 hF1 (show k - 10 < 4 by omega), b4 (k - 10) (by omega), nI_add]
    rfl) 4 10 (mixI (mixI v (rSn S 0)) (rSn S 1)) σ1 (by omega) ⟨by omega, rfl⟩
  obtain ⟨_, rfl⟩ := p2
  refine ⟨σ2, ?_, hp⟩
  have c1 : nI 4 ≤ nI (14 - 10) := by decide +kernel
  rw [s116]
  simp only [s116_0, s116_1, s116_4, s116_5, s116_8, s116_9, s116_12, s116_15, s116_18, s116_19, s116_20, s116_21, s116_24, s116_27, s116_28, s116_29, s116_29i, s116_29r, s116_30, s116_33, s116_34, s116_35, s116_36, s116_39, s116_42, s116_43, s116_44, s116_44i, s116_44r, s116_45, s116_46, s116_46i, s116_46r, am_pu_s, am_pu_n, va_rf_s, va_rf_n, Option.bind_some, true_or, or_true, eq_self, if_true, if_false, ite_self, ite_true, ite_false, ↓reduceIte, reduceCtorEq, Nat.reduceEqDiff, Nat.reduceAdd, Nat.reduceLT, Nat.reduceLeDiff, Nat.reduceMul, Nat.reduceSub, not_true_eq_false, not_false_eq_true, and_self, and_true, true_and, and_false, false_and, hF, hF1, kd0, kd57, kd8, kd54, rr0_2, rr0_4, rr0_6, e1, q1.2.1, q1.2.2.1]
  refine Eq.trans e2 ?_
  try dsimp only
  rw [s116_48]
  simp only [s116_50, s116_51, s116_77, s116_78, am_pu_s, am_pu_n, va_rf_s, va_rf_n, Option.bind_some, true_or, or_true, eq_self, if_true, if_false, ite_self, ite_true, ite_false, ↓reduceIte, reduceCtorEq, Nat.reduceEqDiff, Nat.reduceAdd, Nat.reduceLT, Nat.reduceLeDiff, Nat.reduceMul, Nat.reduceSub, not_true_eq_false, not_false_eq_true, and_self, and_true, true_and, and_false, false_and, c1]
  rfl
theorem c114 (h : cRep S σ) (hO : sOK N S) : ∃ σ', am_v X (d + 9) 114 [.ref (0 : Nat)] σ = some (some (.long (rDigest S)), σ') ∧ am_pr nsB σ σ' := by
  have hF := h.1
  have hG := sO_G hO
  have hL := hO.2.1.1
  obtain ⟨σ1, e1, p1⟩ := am_lps (fun k v1 σ1 => am_w X (d + 8) 114 6 [some (.ref (0 : Nat)), some (.long v1), none, some (.int (nI k)), none] [] σ1) (dgK S) 4 (fun _ _ σ1 => am_pr nsB σ σ1) (fun k v1 σ1 hk hp => by
    have h1 := h.prB hp
    have c0 : ¬ nI 4 ≤ nI k := nI_ge (by omega) (by decide)
    obtain ⟨σ2, e2, hp2⟩ := c115 (X := X) (d := d) h1 hO hk v1
    refine ⟨σ2, ?_, hp.tr hp2⟩
    try dsimp only
    rw [s114_6]
    simp only [s114_7, s114_8, s114_11, s114_12, s114_13, s114_14, s114_17, s114_17i, s114_17r, s114_18, s114_18i, s114_18r, s114_21, am_pu_s, am_pu_n, va_rf_s, va_rf_n, Option.bind_some, true_or, or_true, eq_self, if_true, if_false, ite_self, ite_true, ite_false, ↓reduceIte, reduceCtorEq, Nat.reduceEqDiff, Nat.reduceAdd, Nat.reduceLT, Nat.reduceLeDiff, Nat.reduceMul, Nat.reduceSub, not_true_eq_false, not_false_eq_true, and_self, and_true, true_and, and_false, false_and, h1.1, kd0, c0, e2, nI_add]) 4 0 1109 σ (by omega) (am_pr.rf hF)
  have gate : ∀ g, g < S 4 0 0 → ∀ v l4 σ1, am_pr nsB σ σ1 → ∃ σ', am_w X (d + 8) 114 26 [some (.ref (0 : Nat)), some (.long v), none, some (.int (nI g)), l4] [] σ1 = am_w X (d + 8) 114 26 [some (.ref (0 : Nat)), some (.long (dgG S g v)), none, some (.int (nI (g + 1))), some (.int (nI 9))] [] σ' ∧ am_pr nsB σ σ' := by
    intro g hg v l4 σ1 hp
    have h1 := h.prB hp
    have c0 : ¬ nI (S 4 0 0) ≤ nI g := nI_ge (by omega) (by omega)
    obtain ⟨σ2, e2, p2⟩ := am_lps (fun k v1 σ1 => am_w X (d + 8) 114 40 [some (.ref (0 : Nat)), some (.long v1), none, some (.int (nI g)), some (.int (nI k))] [] σ1) (fun k h => mixI h (rGate S (nI g) (nI k))) 9 (fun _ _ σ1 => am_pr nsB σ σ1) (fun k v1 σ1 hk hp => by
      have h1 := h.prB hp
      have c0 : ¬ nI 8 < nI k := nI_nlt (by omega) (by decide)
      obtain ⟨σ2, e2, hp2⟩ := c98 (X := X) (d := d + 1) (v := nI g) (w := nI k) h1 hO
      refine ⟨σ2, ?_, hp.tr hp2.A_B⟩
      try dsimp only
      rw [s114_40]
      simp only [s114_42, s114_44, s114_47, s114_50, s114_51, s114_52, s114_53, s114_54, s114_56, s114_59, s114_60, s114_61, s114_61i, s114_61r, s114_62, s114_62i, s114_62r, s114_65, am_pu_s, am_pu_n, va_rf_s, va_rf_n, Option.bind_some, true_or, or_true, eq_self, if_true, if_false, ite_self, ite_true, ite_false, ↓reduceIte, reduceCtorEq, Nat.reduceEqDiff, Nat.reduceAdd, Nat.reduceLT, Nat.reduceLeDiff, Nat.reduceMul, Nat.reduceSub, not_true_eq_false, not_false_eq_true, and_self, and_true, true_and, and_false, false_and, h1.1, kd0, c0, e2, nI_add]
      rfl) 9 0 v σ1 (by omega) hp
    refine ⟨σ2, ?_, p2⟩
    have c1 : nI 8 < nI 9 := by decide +kernel
    rw [s114_26]
    simp only [s114_27, s114_28, s114_31, s114_34, s114_37, s114_38, s114_38i, s114_38r, am_pu_s, am_pu_n, va_rf_s, va_rf_n, Option.bind_some, true_or, or_true, eq_self, if_true, if_false, ite_self, ite_true, ite_false, ↓reduceIte, reduceCtorEq, Nat.reduceEqDiff, Nat.reduceAdd, Nat.reduceLT, Nat.reduceLeDiff, Nat.reduceMul, Nat.reduceSub, not_true_eq_false, not_false_eq_true, and_self, and_true, true_and, and_false, false_and, h1.1, kd0, kd8, rr0_2, cR_G h1, c0]
    refine Eq.trans e2 ?_
    try dsimp only
    rw [s114_40]
    simp only [s114_42, s114_44, s114_68, s114_68i, s114_68r, s114_71, am_pu_s, am_pu_n, va_rf_s, va_rf_n, Option.bind_some, true_or, or_true, eq_self, if_true, if_false, ite_self, ite_true, ite_false, ↓reduceIte, reduceCtorEq, Nat.reduceEqDiff, Nat.reduceAdd, Nat.reduceLT, Nat.reduceLeDiff, Nat.reduceMul, Nat.reduceSub, not_true_eq_false, not_false_eq_true, and_self, and_true, true_and, and_false, false_and, c1, nI_add]
    rfl
  obtain ⟨σ2, e2, p2⟩ := am_lps (fun k (v1 : Int64 × Option Value) σ1 => am_w X (d + 8) 114 26 [some (.ref (0 : Nat)), some (.long v1.1), none, some (.int (nI k)), v1.2] [] σ1) (fun g p => (dgG S g p.1, some (.int (nI 9)))) (S 4 0 0) (fun _ _ σ1 => am_pr nsB σ σ1) (fun k v1 σ1 hk hp => gate k hk v1.1 v1.2 σ1 hp) (S 4 0 0) 0 (am_fd (dgK S) 0 4 1109, none) σ1 (by omega) p1
  have f2 := am_fd_fst (dgG S) (some (Value.int (nI 9))) (S 4 0 0) 0 (am_fd (dgK S) 0 4 1109, none)
  dsimp only at e2 f2
  rw [f2] at e2
  generalize (am_fd (fun g (p : Int64 × Option Value) => (dgG S g p.1, some (Value.int (nI 9)))) 0 (S 4 0 0) (am_fd (dgK S) 0 4 1109, none)).2 = l4 at e2
  have h2 := h.prB p2
  have plan : ∃ σ3, am_w X (d + 8) 114 74 [some (.ref (0 : Nat)), some (.long (am_fd (dgG S) 0 (S 4 0 0) (am_fd (dgK S) 0 4 1109))), none, some (.int (nI (S 4 0 0))), l4] [] σ2 = am_w X (d + 8) 114 92 [some (.ref (0 : Nat)), some (.long (if 0 < S 4 0 0 then dgP S (am_fd (dgG S) 0 (S 4 0 0) (am_fd (dgK S) 0 4 1109)) else (am_fd (dgG S) 0 (S 4 0 0) (am_fd (dgK S) 0 4 1109)))), none, some (.int (nI 0)), l4] [] σ3 ∧ am_pr nsB σ σ3 := by
    by_cases hg : 0 < S 4 0 0
    · obtain ⟨σ3, e3, p3⟩ := c116 (X := X) (d := d) h2 hO (am_fd (dgG S) 0 (S 4 0 0) (am_fd (dgK S) 0 4 1109))
      have c0 : ¬ nI (S 4 0 0) ≤ nI 0 := nI_ge hg (by omega)
      refine ⟨σ3, ?_, p2.tr p3⟩
      rw [if_pos hg]
      simp only [s114_74, s114_75, s114_78, s114_81, s114_84, s114_85, s114_86, s114_89, s114_89i, s114_89r, s114_90, s114_91, s114_91i, s114_91r, am_pu_s, am_pu_n, va_rf_s, va_rf_n, Option.bind_some, true_or, or_true, eq_self, if_true, if_false, ite_self, ite_true, ite_false, ↓reduceIte, reduceCtorEq, Nat.reduceEqDiff, Nat.reduceAdd, Nat.reduceLT, Nat.reduceLeDiff, Nat.reduceMul, Nat.reduceSub, not_true_eq_false, not_false_eq_true, and_self, and_true, true_and, and_false, false_and, h2.1, kd0, kd8, rr0_2, cR_G h2, c0, e3]
    · have c0 : nI (S 4 0 0) ≤ nI 0 := nI_le (by omega) (by decide)
      refine ⟨σ2, ?_, p2⟩
      rw [if_neg hg]
      simp only [s114_74, s114_75, s114_78, s114_81, s114_84, s114_85, s114_86, s114_89, s114_89i, s114_89r, s114_90, s114_91, s114_91i, s114_91r, am_pu_s, am_pu_n, va_rf_s, va_rf_n, Option.bind_some, true_or, or_true, eq_self, if_true, if_false, ite_self, ite_true, ite_false, ↓reduceIte, reduceCtorEq, Nat.reduceEqDiff, Nat.reduceAdd, Nat.reduceLT, Nat.reduceLeDiff, Nat.reduceMul, Nat.reduceSub, not_true_eq_false, not_false_eq_true, and_self, and_true, true_and, and_false, false_and, h2.1, kd0, kd8, rr0_2, cR_G h2, c0]
  obtain ⟨σ3, e3, p3⟩ := plan
  have h3 := h.prB p3
  obtain ⟨σ4, e4, p4⟩ := am_lps (fun k v1 σ1 => am_w X (d + 8) 114 92 [some (.ref (0 : Nat)), some (.long v1), none, some (.int (nI k)), l4] [] σ1) (fun k h => mixI h (nI (S 15 k 0))) (S 14 0 0) (fun _ _ σ1 => am_pr nsB σ σ1) (fun k v1 σ1 hk hp => by
    have h1 := h.prB hp
    have hpg := h1.2.2.2.1
    have c0 : ¬ nI (S 14 0 0) ≤ nI k := nI_ge (by omega) (by omega)
    refine ⟨σ1, ?_, hp⟩
    try dsimp only
    rw [s114_92]
    simp only [s114_93, s114_94, s114_97, s114_100, s114_103, s114_106, s114_107, s114_108, s114_109, s114_112, s114_113, s114_116, s114_117, s114_118, s114_118i, s114_118r, s114_119, s114_119i, s114_119r, s114_122, am_pu_s, am_pu_n, va_rf_s, va_rf_n, Option.bind_some, true_or, or_true, eq_self, if_true, if_false, ite_self, ite_true, ite_false, ↓reduceIte, reduceCtorEq, Nat.reduceEqDiff, Nat.reduceAdd, Nat.reduceLT, Nat.reduceLeDiff, Nat.reduceMul, Nat.reduceSub, not_true_eq_false, not_false_eq_true, and_self, and_true, true_and, and_false, false_and, h1.1, kd0, kd1, rr0_0, hpg.1, c0, m24 h1.1 hpg.1 hL hk, hpg.2 k hk, nI_add]
    rfl) (S 14 0 0) 0 _ σ3 (by omega) p3
  have h4 := h.prB p4
  obtain ⟨σ5, e5, p5⟩ := am_lps (fun k v1 σ1 => am_w X (d + 8) 114 127 [some (.ref (0 : Nat)), some (.long v1), none, some (.int (nI k)), l4] [] σ1) (fun k h => mixI h (rCount S (nI k))) 11 (fun _ _ σ1 => am_pr nsB σ σ1) (fun k v1 σ1 hk hp => by
    have h1 := h.prB hp
    have c0 : ¬ nI 10 < nI k := nI_nlt (by omega) (by decide)
    obtain ⟨σ2, e2, hp2⟩ := c113 (X := X) (d := d) (v := nI k) h1 hO
    refine ⟨σ2, ?_, hp.tr hp2.A_B⟩
    try dsimp only
    rw [s114_127]
    simp only [s114_128, s114_130, s114_133, s114_136, s114_137, s114_138, s114_139, s114_140, s114_143, s114_144, s114_145, s114_145i, s114_145r, s114_146, s114_146i, s114_146r, s114_149, am_pu_s, am_pu_n, va_rf_s, va_rf_n, Option.bind_some, true_or, or_true, eq_self, if_true, if_false, ite_self, ite_true, ite_false, ↓reduceIte, reduceCtorEq, Nat.reduceEqDiff, Nat.reduceAdd, Nat.reduceLT, Nat.reduceLeDiff, Nat.reduceMul, Nat.reduceSub, not_true_eq_false, not_false_eq_true, and_self, and_true, true_and, and_false, false_and, h1.1, kd0, c0, e2, nI_add]
    rfl) 11 0 _ σ4 (by omega) p4
  refine ⟨σ5, ?_, p5⟩
  have c1 : nI 4 ≤ nI 4 := Int32.le_refl _
  have c2 : nI 10 < nI 11 := by decide +kernel
  rw [s114]
  simp only [s114_0, s114_3, s114_3i, s114_3r, s114_4, s114_5, s114_5i, s114_5r, am_pu_s, am_pu_n, va_rf_s, va_rf_n, Option.bind_some, true_or, or_true, eq_self, if_true, if_false, ite_self, ite_true, ite_false, ↓reduceIte, reduceCtorEq, Nat.reduceEqDiff, Nat.reduceAdd, Nat.reduceLT, Nat.reduceLeDiff, Nat.reduceMul, Nat.reduceSub, not_true_eq_false, not_false_eq_true, and_self, and_true, true_and, and_false, false_and]
  refine Eq.trans e1 ?_
  try dsimp only
  rw [s114_6]
  simp only [s114_7, s114_8, s114_24, s114_25, s114_25i, s114_25r, am_pu_s, am_pu_n, va_rf_s, va_rf_n, Option.bind_some, true_or, or_true, eq_self, if_true, if_false, ite_self, ite_true, ite_false, ↓reduceIte, reduceCtorEq, Nat.reduceEqDiff, Nat.reduceAdd, Nat.reduceLT, Nat.reduceLeDiff, Nat.reduceMul, Nat.reduceSub, not_true_eq_false, not_false_eq_true, and_self, and_true, true_and, and_false, false_and, c1]
  refine Eq.trans e2 ?_
  rw [s114_26]
  simp only [s114_27, s114_28, s114_31, s114_34, am_pu_s, am_pu_n, va_rf_s, va_rf_n, Option.bind_some, true_or, or_true, eq_self, if_true, if_false, ite_self, ite_true, ite_false, ↓reduceIte, reduceCtorEq, Nat.reduceEqDiff, Nat.reduceAdd, Nat.reduceLT, Nat.reduceLeDiff, Nat.reduceMul, Nat.reduceSub, not_true_eq_false, not_false_eq_true, and_self, and_true, true_and, and_false, false_and, h2.1, kd0, kd8, rr0_2, cR_G h2, Int32.le_refl]
  refine Eq.trans e3 ?_
  refine Eq.trans e4 ?_
  try dsimp only
  rw [s114_92]
  have hpg := h4.2.2.2.1
  simp only [s114_93, s114_94, s114_97, s114_100, s114_125, s114_126, s114_126i, s114_126r, am_pu_s, am_pu_n, va_rf_s, va_rf_n, Option.bind_some, true_or, or_true, eq_self, if_true, if_false, ite_self, ite_true, ite_false, ↓reduceIte, reduceCtorEq, Nat.reduceEqDiff, Nat.reduceAdd, Nat.reduceLT, Nat.reduceLeDiff, Nat.reduceMul, Nat.reduceSub, not_true_eq_false, not_false_eq_true, and_self, and_true, true_and, and_false, false_and, h4.1, kd0, kd1, rr0_0, hpg.1, Int32.le_refl]
  refine Eq.trans e5 ?_
  try dsimp only
  rw [s114_127]
  simp only [s114_128, s114_130, s114_152, s114_153, am_pu_s, am_pu_n, va_rf_s, va_rf_n, Option.bind_some, true_or, or_true, eq_self, if_true, if_false, ite_self, ite_true, ite_false, ↓reduceIte, reduceCtorEq, Nat.reduceEqDiff, Nat.reduceAdd, Nat.reduceLT, Nat.reduceLeDiff, Nat.reduceMul, Nat.reduceSub, not_true_eq_false, not_false_eq_true, and_self, and_true, true_and, and_false, false_and, c2]
  rfl
/-! the model's digest -/
theorem m162 (h : mRep S σ) (hO : sOK N S) {b j : Nat} (hb : b < 4) (h0 : 0 < S 1 b 0) (hj : j < 9) : ∃ σ', am_v X (d + 7) 162 [.ref (66 : Nat), .int (nI b), .int (nI j)] σ = some (some (.int (rTune S (nI b) (nI j))), σ') ∧ am_pr nsA σ σ' := by
  have hF := h.1
  unfold rTune
  rw [tI_s hb h0]
  dsimp only
  rw [if_neg (pk_nN hj (by decide)), nI_cl (show j < 2147483648 by omega)]
  rw [s162]
  have hj9 : j = 0 ∨ j = 1 ∨ j = 2 ∨ j = 3 ∨ j = 4 ∨ j = 5 ∨ j = 6 ∨ j = 7 ∨ j = 8 := by omega
  rcases hj9 with rfl | rfl | rfl | rfl | rfl | rfl | rfl | rfl | rfl
  · refine ⟨σ, ?_, am_pr.rf hF⟩
    simp only [s162_0, s162_1, s162_48, s162_49, s162_52, s162_53, s162_54, s162_55, s162_56, s162_57, s162_60, s162_61, s162_62, s162_63, s162_66, s162_67, s162_68, s162_69, s162_72, s162_73, s162_74, s162_75, s162_78, s162_79, s162_80, s162_81, s162_84, s162_85, s162_86, s162_87, s162_90, s162_93, s162_94, s162_97, s162_98, s162_99, s162_100, s162_103, s162_104, s162_105, s162_106, s162_107, s162_108, s162_109, s162_112, am_pu_s, am_pu_n, va_rf_s, va_rf_n, Option.bind_some, true_or, or_true, eq_self, if_true, if_false, ite_self, ite_true, ite_false, ↓reduceIte, reduceCtorEq, Nat.reduceEqDiff, Nat.reduceAdd, Nat.reduceLT, Nat.reduceLeDiff, Nat.reduceMul, Nat.reduceSub, not_true_eq_false, not_false_eq_true, and_self, and_true, true_and, and_false, false_and, hF, kd66, rr66_1, ix68 hF hb, nI_cl (show b < 2147483648 by omega), mR_N h hb, nI_EQ]
  · refine ⟨σ, ?_, am_pr.rf hF⟩
    simp only [s162_0, s162_1, s162_48, s162_49, s162_52, s162_53, s162_54, s162_55, s162_56, s162_57, s162_60, s162_61, s162_62, s162_63, s162_66, s162_67, s162_68, s162_69, s162_72, s162_73, s162_74, s162_75, s162_78, s162_79, s162_80, s162_81, s162_84, s162_85, s162_86, s162_87, s162_90, s162_93, s162_94, s162_97, s162_98, s162_99, s162_100, s162_103, s162_104, s162_105, s162_106, s162_107, s162_108, s162_109, s162_112, am_pu_s, am_pu_n, va_rf_s, va_rf_n, Option.bind_some, true_or, or_true, eq_self, if_true, if_false, ite_self, ite_true, ite_false, ↓reduceIte, reduceCtorEq, Nat.reduceEqDiff, Nat.reduceAdd, Nat.reduceLT, Nat.reduceLeDiff, Nat.reduceMul, Nat.reduceSub, not_true_eq_false, not_false_eq_true, and_self, and_true, true_and, and_false, false_and, hF, kd66, nI_EQ, m155 h hO hb]
  · refine ⟨σ, ?_, am_pr.rf hF⟩
    simp only [s162_0, s162_1, s162_48, s162_49, s162_52, s162_53, s162_54, s162_55, s162_56, s162_57, s162_60, s162_61, s162_62, s162_63, s162_66, s162_67, s162_68, s162_69, s162_72, s162_73, s162_74, s162_75, s162_78, s162_79, s162_80, s162_81, s162_84, s162_85, s162_86, s162_87, s162_90, s162_93, s162_94, s162_97, s162_98, s162_99, s162_100, s162_103, s162_104, s162_105, s162_106, s162_107, s162_108, s162_109, s162_112, am_pu_s, am_pu_n, va_rf_s, va_rf_n, Option.bind_some, true_or, or_true, eq_self, if_true, if_false, ite_self, ite_true, ite_false, ↓reduceIte, reduceCtorEq, Nat.reduceEqDiff, Nat.reduceAdd, Nat.reduceLT, Nat.reduceLeDiff, Nat.reduceMul, Nat.reduceSub, not_true_eq_false, not_false_eq_true, and_self, and_true, true_and, and_false, false_and, hF, kd66, nI_EQ, m156 h hO hb]
  · refine ⟨σ, ?_, am_pr.rf hF⟩
    simp only [s162_0, s162_1, s162_48, s162_49, s162_52, s162_53, s162_54, s162_55, s162_56, s162_57, s162_60, s162_61, s162_62, s162_63, s162_66, s162_67, s162_68, s162_69, s162_72, s162_73, s162_74, s162_75, s162_78, s162_79, s162_80, s162_81, s162_84, s162_85, s162_86, s162_87, s162_90, s162_93, s162_94, s162_97, s162_98, s162_99, s162_100, s162_103, s162_104, s162_105, s162_106, s162_107, s162_108, s162_109, s162_112, am_pu_s, am_pu_n, va_rf_s, va_rf_n, Option.bind_some, true_or, or_true, eq_self, if_true, if_false, ite_self, ite_true, ite_false, ↓reduceIte, reduceCtorEq, Nat.reduceEqDiff, Nat.reduceAdd, Nat.reduceLT, Nat.reduceLeDiff, Nat.reduceMul, Nat.reduceSub, not_true_eq_false, not_false_eq_true, and_self, and_true, true_and, and_false, false_and, hF, kd66, nI_EQ, m157 h hO hb]
  · refine ⟨σ, ?_, am_pr.rf hF⟩
    simp only [s162_0, s162_1, s162_48, s162_49, s162_52, s162_53, s162_54, s162_55, s162_56, s162_57, s162_60, s162_61, s162_62, s162_63, s162_66, s162_67, s162_68, s162_69, s162_72, s162_73, s162_74, s162_75, s162_78, s162_79, s162_80, s162_81, s162_84, s162_85, s162_86, s162_87, s162_90, s162_93, s162_94, s162_97, s162_98, s162_99, s162_100, s162_103, s162_104, s162_105, s162_106, s162_107, s162_108, s162_109, s162_112, am_pu_s, am_pu_n, va_rf_s, va_rf_n, Option.bind_some, true_or, or_true, eq_self, if_true, if_false, ite_self, ite_true, ite_false, ↓reduceIte, reduceCtorEq, Nat.reduceEqDiff, Nat.reduceAdd, Nat.reduceLT, Nat.reduceLeDiff, Nat.reduceMul, Nat.reduceSub, not_true_eq_false, not_false_eq_true, and_self, and_true, true_and, and_false, false_and, hF, kd66, nI_EQ, m158 h hO hb]
  · refine ⟨σ, ?_, am_pr.rf hF⟩
    simp only [s162_0, s162_1, s162_48, s162_49, s162_52, s162_53, s162_54, s162_55, s162_56, s162_57, s162_60, s162_61, s162_62, s162_63, s162_66, s162_67, s162_68, s162_69, s162_72, s162_73, s162_74, s162_75, s162_78, s162_79, s162_80, s162_81, s162_84, s162_85, s162_86, s162_87, s162_90, s162_93, s162_94, s162_97, s162_98, s162_99, s162_100, s162_103, s162_104, s162_105, s162_106, s162_107, s162_108, s162_109, s162_112, am_pu_s, am_pu_n, va_rf_s, va_rf_n, Option.bind_some, true_or, or_true, eq_self, if_true, if_false, ite_self, ite_true, ite_false, ↓reduceIte, reduceCtorEq, Nat.reduceEqDiff, Nat.reduceAdd, Nat.reduceLT, Nat.reduceLeDiff, Nat.reduceMul, Nat.reduceSub, not_true_eq_false, not_false_eq_true, and_self, and_true, true_and, and_false, false_and, hF, kd66, nI_EQ, m159 h hO hb h0]
  · refine ⟨σ, ?_, am_pr.rf hF⟩
    have m := m160 (X := X) (d := d + 4) h hO hb
    by_cases h2 : sMi (S 0 b) (S 1 b 0)
    · rw [bI_t h2] at m ⊢
      simp only [s162_0, s162_1, s162_48, s162_49, s162_52, s162_53, s162_54, s162_55, s162_56, s162_57, s162_60, s162_61, s162_62, s162_63, s162_66, s162_67, s162_68, s162_69, s162_72, s162_73, s162_74, s162_75, s162_78, s162_79, s162_80, s162_81, s162_84, s162_85, s162_86, s162_87, s162_90, s162_93, s162_94, s162_97, s162_98, s162_99, s162_100, s162_103, s162_104, s162_105, s162_106, s162_107, s162_108, s162_109, s162_112, am_pu_s, am_pu_n, va_rf_s, va_rf_n, Option.bind_some, true_or, or_true, eq_self, if_true, if_false, ite_self, ite_true, ite_false, ↓reduceIte, reduceCtorEq, Nat.reduceEqDiff, Nat.reduceAdd, Nat.reduceLT, Nat.reduceLeDiff, Nat.reduceMul, Nat.reduceSub, not_true_eq_false, not_false_eq_true, and_self, and_true, true_and, and_false, false_and, hF, kd66, nI_EQ, m]
    · rw [bI_f h2] at m ⊢
      simp only [s162_0, s162_1, s162_48, s162_49, s162_52, s162_53, s162_54, s162_55, s162_56, s162_57, s162_60, s162_61, s162_62, s162_63, s162_66, s162_67, s162_68, s162_69, s162_72, s162_73, s162_74, s162_75, s162_78, s162_79, s162_80, s162_81, s162_84, s162_85, s162_86, s162_87, s162_90, s162_93, s162_94, s162_97, s162_98, s162_99, s162_100, s162_103, s162_104, s162_105, s162_106, s162_107, s162_108, s162_109, s162_112, am_pu_s, am_pu_n, va_rf_s, va_rf_n, Option.bind_some, true_or, or_true, eq_self, if_true, if_false, ite_self, ite_true, ite_false, ↓reduceIte, reduceCtorEq, Nat.reduceEqDiff, Nat.reduceAdd, Nat.reduceLT, Nat.reduceLeDiff, Nat.reduceMul, Nat.reduceSub, not_true_eq_false, not_false_eq_true, and_self, and_true, true_and, and_false, false_and, hF, kd66, nI_EQ, m]
  · refine ⟨σ, ?_, am_pr.rf hF⟩
    simp only [s162_0, s162_1, s162_48, s162_49, s162_52, s162_53, s162_54, s162_55, s162_56, s162_57, s162_60, s162_61, s162_62, s162_63, s162_66, s162_67, s162_68, s162_69, s162_72, s162_73, s162_74, s162_75, s162_78, s162_79, s162_80, s162_81, s162_84, s162_85, s162_86, s162_87, s162_90, s162_93, s162_94, s162_97, s162_98, s162_99, s162_100, s162_103, s162_104, s162_105, s162_106, s162_107, s162_108, s162_109, s162_112, am_pu_s, am_pu_n, va_rf_s, va_rf_n, Option.bind_some, true_or, or_true, eq_self, if_true, if_false, ite_self, ite_true, ite_false, ↓reduceIte, reduceCtorEq, Nat.reduceEqDiff, Nat.reduceAdd, Nat.reduceLT, Nat.reduceLeDiff, Nat.reduceMul, Nat.reduceSub, not_true_eq_false, not_false_eq_true, and_self, and_true, true_and, and_false, false_and, hF, kd66, rr66_2, ix69 hF hb, nI_cl (show b < 2147483648 by omega), mR_D h hb h0, nI_EQ]
  · obtain ⟨σ2, e2, hp2⟩ := m161 (X := X) (d := d) h hO hb (show 0 < 50 by omega)
    refine ⟨σ2, ?_, hp2⟩
    simp only [s162_0, s162_1, s162_48, s162_49, s162_52, s162_53, s162_54, s162_55, s162_56, s162_57, s162_60, s162_61, s162_62, s162_63, s162_66, s162_67, s162_68, s162_69, s162_72, s162_73, s162_74, s162_75, s162_78, s162_79, s162_80, s162_81, s162_84, s162_85, s162_86, s162_87, s162_90, s162_93, s162_94, s162_97, s162_98, s162_99, s162_100, s162_103, s162_104, s162_105, s162_106, s162_107, s162_108, s162_109, s162_112, am_pu_s, am_pu_n, va_rf_s, va_rf_n, Option.bind_some, true_or, or_true, eq_self, if_true, if_false, ite_self, ite_true, ite_false, ↓reduceIte, reduceCtorEq, Nat.reduceEqDiff, Nat.reduceAdd, Nat.reduceLT, Nat.reduceLeDiff, Nat.reduceMul, Nat.reduceSub, not_true_eq_false, not_false_eq_true, and_self, and_true, true_and, and_false, false_and, hF, kd66, nI_EQ, e2]
theorem m177 (h : mRep S σ) (hO : sOK N S) {g j : Nat} (hg : g < S 4 0 0) (hj : j < 9) : ∃ σ', am_v X (d + 8) 177 [.ref (66 : Nat), .int (nI g), .int (nI j)] σ = some (some (.int (rGate S (nI g) (nI j))), σ') ∧ am_pr nsA σ σ' := by
  have hF := h.1
  have hG := sO_G hO
  have hg4 : g < 4 := by omega
  unfold rGate
  rw [gI_s hg hg4]
  dsimp only
  rw [if_neg (pk_nN hj (by decide)), nI_cl (show j < 2147483648 by omega)]
  rw [s177]
  have hj9 : j = 0 ∨ j = 1 ∨ j = 2 ∨ j = 3 ∨ j = 4 ∨ j = 5 ∨ j = 6 ∨ j = 7 ∨ j = 8 := by omega
  have hgc := nI_cl (show g < 2147483648 by omega)
  rcases hj9 with rfl | rfl | rfl | rfl | rfl | rfl | rfl | rfl | rfl
  · refine ⟨σ, ?_, am_pr.rf hF⟩
    simp only [s177_0, s177_1, s177_48, s177_49, s177_52, s177_53, s177_54, s177_55, s177_56, s177_59, s177_60, s177_61, s177_62, s177_63, s177_66, s177_67, s177_68, s177_69, s177_70, s177_73, s177_74, s177_75, s177_76, s177_77, s177_80, s177_81, s177_82, s177_83, s177_84, s177_85, s177_86, s177_87, s177_88, s177_91, s177_92, s177_93, s177_94, s177_97, am_pu_s, am_pu_n, va_rf_s, va_rf_n, Option.bind_some, true_or, or_true, eq_self, if_true, if_false, ite_self, ite_true, ite_false, ↓reduceIte, reduceCtorEq, Nat.reduceEqDiff, Nat.reduceAdd, Nat.reduceLT, Nat.reduceLeDiff, Nat.reduceMul, Nat.reduceSub, not_true_eq_false, not_false_eq_true, and_self, and_true, true_and, and_false, false_and, hF, kd66, rr66_6, ix70 hF hg4, hgc, mR_K h hg4, nI_EQ]
  · refine ⟨σ, ?_, am_pr.rf hF⟩
    simp only [s177_0, s177_1, s177_48, s177_49, s177_52, s177_53, s177_54, s177_55, s177_56, s177_59, s177_60, s177_61, s177_62, s177_63, s177_66, s177_67, s177_68, s177_69, s177_70, s177_73, s177_74, s177_75, s177_76, s177_77, s177_80, s177_81, s177_82, s177_83, s177_84, s177_85, s177_86, s177_87, s177_88, s177_91, s177_92, s177_93, s177_94, s177_97, am_pu_s, am_pu_n, va_rf_s, va_rf_n, Option.bind_some, true_or, or_true, eq_self, if_true, if_false, ite_self, ite_true, ite_false, ↓reduceIte, reduceCtorEq, Nat.reduceEqDiff, Nat.reduceAdd, Nat.reduceLT, Nat.reduceLeDiff, Nat.reduceMul, Nat.reduceSub, not_true_eq_false, not_false_eq_true, and_self, and_true, true_and, and_false, false_and, hF, kd66, rr66_7, ix71 hF hg4, hgc, mR_T h hg4, nI_EQ]
  · refine ⟨σ, ?_, am_pr.rf hF⟩
    simp only [s177_0, s177_1, s177_48, s177_49, s177_52, s177_53, s177_54, s177_55, s177_56, s177_59, s177_60, s177_61, s177_62, s177_63, s177_66, s177_67, s177_68, s177_69, s177_70, s177_73, s177_74, s177_75, s177_76, s177_77, s177_80, s177_81, s177_82, s177_83, s177_84, s177_85, s177_86, s177_87, s177_88, s177_91, s177_92, s177_93, s177_94, s177_97, am_pu_s, am_pu_n, va_rf_s, va_rf_n, Option.bind_some, true_or, or_true, eq_self, if_true, if_false, ite_self, ite_true, ite_false, ↓reduceIte, reduceCtorEq, Nat.reduceEqDiff, Nat.reduceAdd, Nat.reduceLT, Nat.reduceLeDiff, Nat.reduceMul, Nat.reduceSub, not_true_eq_false, not_false_eq_true, and_self, and_true, true_and, and_false, false_and, hF, kd66, rr66_8, ix72 hF hg4, hgc, mR_Wd h hg4, nI_EQ]
  · refine ⟨σ, ?_, am_pr.rf hF⟩
    simp only [s177_0, s177_1, s177_48, s177_49, s177_52, s177_53, s177_54, s177_55, s177_56, s177_59, s177_60, s177_61, s177_62, s177_63, s177_66, s177_67, s177_68, s177_69, s177_70, s177_73, s177_74, s177_75, s177_76, s177_77, s177_80, s177_81, s177_82, s177_83, s177_84, s177_85, s177_86, s177_87, s177_88, s177_91, s177_92, s177_93, s177_94, s177_97, am_pu_s, am_pu_n, va_rf_s, va_rf_n, Option.bind_some, true_or, or_true, eq_self, if_true, if_false, ite_self, ite_true, ite_false, ↓reduceIte, reduceCtorEq, Nat.reduceEqDiff, Nat.reduceAdd, Nat.reduceLT, Nat.reduceLeDiff, Nat.reduceMul, Nat.reduceSub, not_true_eq_false, not_false_eq_true, and_self, and_true, true_and, and_false, false_and, hF, kd66, rr66_9, ix73 hF hg4, hgc, mR_Pa h hg4, nI_EQ]
  · refine ⟨σ, ?_, am_pr.rf hF⟩
    simp only [s177_0, s177_1, s177_48, s177_49, s177_52, s177_53, s177_54, s177_55, s177_56, s177_59, s177_60, s177_61, s177_62, s177_63, s177_66, s177_67, s177_68, s177_69, s177_70, s177_73, s177_74, s177_75, s177_76, s177_77, s177_80, s177_81, s177_82, s177_83, s177_84, s177_85, s177_86, s177_87, s177_88, s177_91, s177_92, s177_93, s177_94, s177_97, am_pu_s, am_pu_n, va_rf_s, va_rf_n, Option.bind_some, true_or, or_true, eq_self, if_true, if_false, ite_self, ite_true, ite_false, ↓reduceIte, reduceCtorEq, Nat.reduceEqDiff, Nat.reduceAdd, Nat.reduceLT, Nat.reduceLeDiff, Nat.reduceMul, Nat.reduceSub, not_true_eq_false, not_false_eq_true, and_self, and_true, true_and, and_false, false_and, hF, kd66, rr66_10, ix74 hF hg4, hgc, mR_Ow h hg4, nI_EQ]
  · refine ⟨σ, ?_, am_pr.rf hF⟩
    have m := m197 (X := X) (d := d + 5) h hO hg4 (show 0 < 3 by decide)
    rw [if_pos rfl] at m
    simp only [s177_0, s177_1, s177_48, s177_49, s177_52, s177_53, s177_54, s177_55, s177_56, s177_59, s177_60, s177_61, s177_62, s177_63, s177_66, s177_67, s177_68, s177_69, s177_70, s177_73, s177_74, s177_75, s177_76, s177_77, s177_80, s177_81, s177_82, s177_83, s177_84, s177_85, s177_86, s177_87, s177_88, s177_91, s177_92, s177_93, s177_94, s177_97, am_pu_s, am_pu_n, va_rf_s, va_rf_n, Option.bind_some, true_or, or_true, eq_self, if_true, if_false, ite_self, ite_true, ite_false, ↓reduceIte, reduceCtorEq, Nat.reduceEqDiff, Nat.reduceAdd, Nat.reduceLT, Nat.reduceLeDiff, Nat.reduceMul, Nat.reduceSub, not_true_eq_false, not_false_eq_true, and_self, and_true, true_and, and_false, false_and, hF, kd66, nI_EQ, pk_sub (show 5 ≤ 5 by decide), m]
  · refine ⟨σ, ?_, am_pr.rf hF⟩
    have m := m197 (X := X) (d := d + 5) h hO hg4 (show 1 < 3 by decide)
    rw [if_neg (by decide), if_pos rfl] at m
    simp only [s177_0, s177_1, s177_48, s177_49, s177_52, s177_53, s177_54, s177_55, s177_56, s177_59, s177_60, s177_61, s177_62, s177_63, s177_66, s177_67, s177_68, s177_69, s177_70, s177_73, s177_74, s177_75, s177_76, s177_77, s177_80, s177_81, s177_82, s177_83, s177_84, s177_85, s177_86, s177_87, s177_88, s177_91, s177_92, s177_93, s177_94, s177_97, am_pu_s, am_pu_n, va_rf_s, va_rf_n, Option.bind_some, true_or, or_true, eq_self, if_true, if_false, ite_self, ite_true, ite_false, ↓reduceIte, reduceCtorEq, Nat.reduceEqDiff, Nat.reduceAdd, Nat.reduceLT, Nat.reduceLeDiff, Nat.reduceMul, Nat.reduceSub, not_true_eq_false, not_false_eq_true, and_self, and_true, true_and, and_false, false_and, hF, kd66, nI_EQ, pk_sub (show 5 ≤ 6 by decide), m]
  · refine ⟨σ, ?_, am_pr.rf hF⟩
    have m := m197 (X := X) (d := d + 5) h hO hg4 (show 2 < 3 by decide)
    rw [if_neg (by decide), if_neg (show ¬ 2 = 1 by decide)] at m
    simp only [s177_0, s177_1, s177_48, s177_49, s177_52, s177_53, s177_54, s177_55, s177_56, s177_59, s177_60, s177_61, s177_62, s177_63, s177_66, s177_67, s177_68, s177_69, s177_70, s177_73, s177_74, s177_75, s177_76, s177_77, s177_80, s177_81, s177_82, s177_83, s177_84, s177_85, s177_86, s177_87, s177_88, s177_91, s177_92, s177_93, s177_94, s177_97, am_pu_s, am_pu_n, va_rf_s, va_rf_n, Option.bind_some, true_or, or_true, eq_self, if_true, if_false, ite_self, ite_true, ite_false, ↓reduceIte, reduceCtorEq, Nat.reduceEqDiff, Nat.reduceAdd, Nat.reduceLT, Nat.reduceLeDiff, Nat.reduceMul, Nat.reduceSub, not_true_eq_false, not_false_eq_true, and_self, and_true, true_and, and_false, false_and, hF, kd66, nI_EQ, pk_sub (show 5 ≤ 7 by decide), m]
  · obtain ⟨σ2, e2, hp2⟩ := m198 (X := X) (d := d) h hO hg4
    refine ⟨σ2, ?_, hp2⟩
    simp only [s177_0, s177_1, s177_48, s177_49, s177_52, s177_53, s177_54, s177_55, s177_56, s177_59, s177_60, s177_61, s177_62, s177_63, s177_66, s177_67, s177_68, s177_69, s177_70, s177_73, s177_74, s177_75, s177_76, s177_77, s177_80, s177_81, s177_82, s177_83, s177_84, s177_85, s177_86, s177_87, s177_88, s177_91, s177_92, s177_93, s177_94, s177_97, am_pu_s, am_pu_n, va_rf_s, va_rf_n, Option.bind_some, true_or, or_true, eq_self, if_true, if_false, ite_self, ite_true, ite_false, ↓reduceIte, reduceCtorEq, Nat.reduceEqDiff, Nat.reduceAdd, Nat.reduceLT, Nat.reduceLeDiff, Nat.reduceMul, Nat.reduceSub, not_true_eq_false, not_false_eq_true, and_self, and_true, true_and, and_false, false_and, hF, kd66, nI_EQ, e2]
theorem m212 (hF : am_F σ) {v w : Int64} (h : am_J σ 66 56 = w) : am_v X (d + 1) 212 [.ref (66 : Nat), .long v] σ = some (none, am_wJ σ 66 56 (31 * w + v)) := by
  rw [s212]
  simp only [s212_0, s212_1, s212_4, s212_5, s212_8, s212_9, s212_10, s212_11, s212_14, am_pu_s, am_pu_n, va_rf_s, va_rf_n, Option.bind_some, true_or, or_true, eq_self, if_true, if_false, ite_self, ite_true, ite_false, ↓reduceIte, reduceCtorEq, Nat.reduceEqDiff, Nat.reduceAdd, Nat.reduceLT, Nat.reduceLeDiff, Nat.reduceMul, Nat.reduceSub, not_true_eq_false, not_false_eq_true, and_self, and_true, true_and, and_false, false_and, hF, kd66, h]
/-- the model's number under way -/
def dM (σ σ1 : am_M) (v : Int64) : Prop := am_pi nsB σ σ1 ∧ am_J σ1 66 56 = v
theorem dM_m {σ σ1 : am_M} {v : Int64} (h : dM σ σ1 v) (x : Int32) : dM σ (am_wJ σ1 66 56 (31 * v + x.toInt64)) (mixI v x) := ⟨h.1.wJ, by rw [am_J_wJ, if_pos ⟨rfl, rfl⟩]; rfl⟩
theorem dM_A {σ σ1 σ2 : am_M} {v : Int64} (h : dM σ σ1 v) (p : am_pr nsA σ1 σ2) : dM σ σ2 v := ⟨h.1.tr p.A_B.i, by rw [p.2.2]; exact h.2⟩
theorem dM_B {σ σ1 σ2 : am_M} {v : Int64} (h : dM σ σ1 v) (p : am_pr nsB σ1 σ2) : dM σ σ2 v := ⟨h.1.tr p.i, by rw [p.2.2]; exact h.2⟩
theorem m213 (h : mRep S σ) (hO : sOK N S) {b : Nat} (hb : b < 4) (h0 : 0 < S 1 b 0) {v : Int64} {σ1 : am_M} (hv : dM σ σ1 v) : ∃ σ', am_v X (d + 8) 213 [.ref (66 : Nat), .int (nI b)] σ1 = some (none, σ') ∧ dM σ σ' (dgT S b v) := by
  have hG := sO_G hO
  have hN := sO_N hO hb
  obtain ⟨σ2, e2, p2⟩ := am_lps (fun k (_ : Int64) σ2 => am_w X (d + 7) 213 2 [some (.ref (66 : Nat)), some (.int (nI b)), some (.int (nI k))] [] σ2) (fun k h => mixI h (rTune S (nI b) (nI k))) 9 (fun _ v σ2 => dM σ σ2 v) (fun k v1 σ2 hk hp => by
    have h1 := h.piB hp.1
    have c0 : ¬ nI 9 ≤ nI k := nI_ge (by omega) (by decide)
    obtain ⟨σ3, e3, hp3⟩ := m162 (X := X) (d := d) h1 hO hb h0 hk
    have q3 := dM_A hp hp3
    refine ⟨_, ?_, dM_m q3 (rTune S (nI b) (nI k))⟩
    try dsimp only
    rw [s213_2]
    simp only [s213_3, s213_5, s213_8, s213_9, s213_10, s213_11, s213_12, s213_15, s213_16, s213_19, s213_22, am_pu_s, am_pu_n, va_rf_s, va_rf_n, Option.bind_some, true_or, or_true, eq_self, if_true, if_false, ite_self, ite_true, ite_false, ↓reduceIte, reduceCtorEq, Nat.reduceEqDiff, Nat.reduceAdd, Nat.reduceLT, Nat.reduceLeDiff, Nat.reduceMul, Nat.reduceSub, not_true_eq_false, not_false_eq_true, and_self, and_true, true_and, and_false, false_and, h1.1, kd66, hp3.1, c0, e3, m212 hp3.1 q3.2, nI_add]) 8 1 v σ1 (by omega) hv
  obtain ⟨σ3, e3, p3⟩ := am_lps (fun k (_ : Int64) σ2 => am_w X (d + 7) 213 27 [some (.ref (66 : Nat)), some (.int (nI b)), some (.int (nI k))] [] σ2) (fun k h => mixI h (nI (S 0 b k))) (S 1 b 0) (fun _ v σ2 => dM σ σ2 v) (fun k v1 σ2 hk hp => by
    have h1 := h.piB hp.1
    have c0 : ¬ nI (S 1 b 0) ≤ nI k := nI_ge (by omega) (by omega)
    refine ⟨_, ?_, dM_m hp (nI (S 0 b k))⟩
    try dsimp only
    rw [s213_27]
    simp only [s213_28, s213_29, s213_32, s213_33, s213_34, s213_37, s213_38, s213_39, s213_40, s213_41, s213_44, s213_45, s213_48, s213_51, am_pu_s, am_pu_n, va_rf_s, va_rf_n, Option.bind_some, true_or, or_true, eq_self, if_true, if_false, ite_self, ite_true, ite_false, ↓reduceIte, reduceCtorEq, Nat.reduceEqDiff, Nat.reduceAdd, Nat.reduceLT, Nat.reduceLeDiff, Nat.reduceMul, Nat.reduceSub, not_true_eq_false, not_false_eq_true, and_self, and_true, true_and, and_false, false_and, h1.1, kd66, rr66_1, ix68 h1.1 hb, nI_cl (show b < 2147483648 by omega), mR_N h1 hb, c0, m154 h1 hb (show k < 60 by omega), m212 h1.1 hp.2, nI_add]) (S 1 b 0) 0 _ σ2 (by omega) p2
  obtain ⟨σ4, e4, p4⟩ := am_lps (fun k (_ : Int64) σ2 => am_w X (d + 7) 213 56 [some (.ref (66 : Nat)), some (.int (nI b)), some (.int (nI k))] [] σ2) (fun g h => mixI (mixI (mixI h (rPays S (nI b) (nI g))) (rWorn S (nI b) (nI g))) (rShort S (nI b) (nI g))) (S 4 0 0) (fun _ v σ2 => dM σ σ2 v) (fun k v1 σ2 hk hp => by
    have h1 := h.piB hp.1
    have hk4 : k < 4 := by omega
    have c0 : ¬ nI (S 4 0 0) ≤ nI k := nI_ge (by omega) (by omega)
    obtain ⟨σ3, e3, hp3⟩ := m176 (X := X) (d := d + 1) h1 hO hb hk4
    have q3 := dM_A hp hp3
    have r1 : rPays S (nI b) (nI k) = nI (sW (S 5 k 0) (S 0 b) (S 7 k 0) (S 1 b 0) - S 3 b k) := by unfold rPays; rw [tI_s hb h0, gI_s hk hk4]
    have r2 : rWorn S (nI b) (nI k) = nI (S 3 b k) := by unfold rWorn; rw [tI_s hb h0, gI_s hk hk4]
    have r3 : rShort S (nI b) (nI k) = wSh (fun j => sW (S 5 k 0) (S 0 b) (S 7 k 0) j - S 3 b k) (S 6 k 0) 0 (S 1 b 0 + 1) := by unfold rShort; rw [tI_s hb h0, gI_s hk hk4]
    rw [← r1] at e3
    have q4 := dM_m q3 (rPays S (nI b) (nI k))
    have h4 := h.piB q4.1
    have q5 := dM_m q4 (rWorn S (nI b) (nI k))
    have h5 := h.piB q5.1
    obtain ⟨σ6, e6, hp6⟩ := m185 (X := X) (d := d + 1) h5 hO hb hk4
    rw [← r3] at e6
    have q6 := dM_A q5 hp6
    refine ⟨_, ?_, dM_m q6 (rShort S (nI b) (nI k))⟩
    have w1 := mR_W h4 hb hk4
    rw [← r2] at w1
    try dsimp only
    rw [s213_56]
    simp only [s213_57, s213_58, s213_61, s213_64, s213_65, s213_66, s213_67, s213_68, s213_71, s213_72, s213_75, s213_76, s213_77, s213_80, s213_81, s213_82, s213_83, s213_84, s213_85, s213_86, s213_87, s213_90, s213_91, s213_92, s213_93, s213_94, s213_97, s213_98, s213_101, s213_104, am_pu_s, am_pu_n, va_rf_s, va_rf_n, Option.bind_some, true_or, or_true, eq_self, if_true, if_false, ite_self, ite_true, ite_false, ↓reduceIte, reduceCtorEq, Nat.reduceEqDiff, Nat.reduceAdd, Nat.reduceLT, Nat.reduceLeDiff, Nat.reduceMul, Nat.reduceSub, not_true_eq_false, not_false_eq_true, and_self, and_true, true_and, and_false, false_and, h1.1, kd66, rr66_11, mR_G h1, c0, e3, hp3.1, m212 hp3.1 q3.2, h4.1, ix75 h4.1 (show 4 * b + k < 16 by omega), nI_2W, nI_cl (show 4 * b + k < 2147483648 by omega), w1, m212 h4.1 q4.2, h5.1, e6, hp6.1, m212 hp6.1 q6.2, nI_add]) (S 4 0 0) 0 _ σ3 (by omega) p3
  refine ⟨σ4, ?_, p4⟩
  have h3 := h.piB p3.1
  have h4 := h.piB p4.1
  have c1 : nI 9 ≤ nI 9 := Int32.le_refl _
  rw [s213]
  simp only [s213_0, s213_1, am_pu_s, am_pu_n, va_rf_s, va_rf_n, Option.bind_some, true_or, or_true, eq_self, if_true, if_false, ite_self, ite_true, ite_false, ↓reduceIte, reduceCtorEq, Nat.reduceEqDiff, Nat.reduceAdd, Nat.reduceLT, Nat.reduceLeDiff, Nat.reduceMul, Nat.reduceSub, not_true_eq_false, not_false_eq_true, and_self, and_true, true_and, and_false, false_and]
  refine Eq.trans e2 ?_
  try dsimp only
  rw [s213_2]
  simp only [s213_3, s213_5, s213_25, s213_26, am_pu_s, am_pu_n, va_rf_s, va_rf_n, Option.bind_some, true_or, or_true, eq_self, if_true, if_false, ite_self, ite_true, ite_false, ↓reduceIte, reduceCtorEq, Nat.reduceEqDiff, Nat.reduceAdd, Nat.reduceLT, Nat.reduceLeDiff, Nat.reduceMul, Nat.reduceSub, not_true_eq_false, not_false_eq_true, and_self, and_true, true_and, and_false, false_and, c1]
  refine Eq.trans e3 ?_
  try dsimp only
  rw [s213_27]
  simp only [s213_28, s213_29, s213_32, s213_33, s213_34, s213_54, s213_55, am_pu_s, am_pu_n, va_rf_s, va_rf_n, Option.bind_some, true_or, or_true, eq_self, if_true, if_false, ite_self, ite_true, ite_false, ↓reduceIte, reduceCtorEq, Nat.reduceEqDiff, Nat.reduceAdd, Nat.reduceLT, Nat.reduceLeDiff, Nat.reduceMul, Nat.reduceSub, not_true_eq_false, not_false_eq_true, and_self, and_true, true_and, and_false, false_and, h3.1, kd66, rr66_1, ix68 h3.1 hb, nI_cl (show b < 2147483648 by omega), mR_N h3 hb, Int32.le_refl]
  refine Eq.trans e4 ?_
  try dsimp only
  rw [s213_56]
  simp only [s213_57, s213_58, s213_61, s213_107, am_pu_s, am_pu_n, va_rf_s, va_rf_n, Option.bind_some, true_or, or_true, eq_self, if_true, if_false, ite_self, ite_true, ite_false, ↓reduceIte, reduceCtorEq, Nat.reduceEqDiff, Nat.reduceAdd, Nat.reduceLT, Nat.reduceLeDiff, Nat.reduceMul, Nat.reduceSub, not_true_eq_false, not_false_eq_true, and_self, and_true, true_and, and_false, false_and, h4.1, kd66, mR_G h4, Int32.le_refl]
theorem c214 (h : mRep S σ) (hO : sOK N S) : ∃ σ', am_v X (d + 9) 214 [.ref (66 : Nat)] σ = some (some (.long (rDigest S)), σ') ∧ am_pi nsB σ σ' := by
  have hF := h.1
  have hG := sO_G hO
  have hL := hO.2.1.1
  have hL40 := hO.2.1.1
  have v0 : dM σ (am_wJ σ 66 56 1109) 1109 := ⟨(am_pi.rf hF).wJ, by rw [am_J_wJ, if_pos ⟨rfl, rfl⟩]⟩
  obtain ⟨σ1, e1, p1⟩ := am_lps (fun k (_ : Int64) σ1 => am_w X (d + 8) 214 9 [some (.ref (66 : Nat)), some (.int (nI k)), none] [] σ1) (dgK S) 4 (fun _ v σ1 => dM σ σ1 v) (fun k v1 σ1 hk hp => by
    have h1 := h.piB hp.1
    have hN := sO_N hO hk
    have c0 : ¬ nI 4 ≤ nI k := nI_ge (by omega) (by decide)
    have e0 : (nI (S 1 k 0) = nI 0) = (S 1 k 0 = 0) := nI_EQ (by omega) (by decide)
    unfold dgK
    by_cases h0 : 0 < S 1 k 0
    · have q1 := dM_m hp (nI (S 1 k 0))
      have hq1 := h.piB q1.1
      obtain ⟨σ2, e2, q2⟩ := m213 (X := X) (d := d) h hO hk h0 q1
      refine ⟨σ2, ?_, by rw [if_pos h0]; exact q2⟩
      have c1 : ¬ nI (S 1 k 0) ≤ nI 0 := nI_ge h0 (by omega)
      have h0' : ¬ S 1 k 0 = 0 := by omega
      try dsimp only
      rw [s214_9]
      simp only [s214_10, s214_11, s214_14, s214_15, s214_16, s214_19, s214_20, s214_21, s214_24, s214_27, s214_30, s214_31, s214_34, s214_35, s214_36, s214_37, s214_40, s214_41, s214_44, s214_45, s214_46, s214_49, s214_50, s214_51, s214_54, s214_57, am_pu_s, am_pu_n, va_rf_s, va_rf_n, Option.bind_some, true_or, or_true, eq_self, if_true, if_false, ite_self, ite_true, ite_false, ↓reduceIte, reduceCtorEq, Nat.reduceEqDiff, Nat.reduceAdd, Nat.reduceLT, Nat.reduceLeDiff, Nat.reduceMul, Nat.reduceSub, not_true_eq_false, not_false_eq_true, and_self, and_true, true_and, and_false, false_and, h1.1, hq1.1, kd66, rr66_1, ix68 h1.1 hk, ix68 hq1.1 hk, nI_cl (show k < 2147483648 by omega), mR_N h1 hk, mR_N hq1 hk, c0, e0, h0', c1, m212 h1.1 hp.2, e2, nI_add]
    · have h0' : S 1 k 0 = 0 := by omega
      have q1 := dM_m hp (-1)
      have hq1 := h.piB q1.1
      refine ⟨_, ?_, by rw [if_neg h0]; exact q1⟩
      have c1 : nI (S 1 k 0) ≤ nI 0 := nI_le (by omega) (by decide)
      have em : ((-1 : Int32)).toInt64 = (-1 : Int64) := by decide +kernel
      rw [em] at hq1 ⊢
      try dsimp only
      rw [s214_9]
      simp only [s214_10, s214_11, s214_14, s214_15, s214_16, s214_19, s214_20, s214_21, s214_24, s214_27, s214_30, s214_31, s214_34, s214_35, s214_36, s214_37, s214_40, s214_41, s214_44, s214_45, s214_46, s214_49, s214_50, s214_51, s214_54, s214_57, am_pu_s, am_pu_n, va_rf_s, va_rf_n, Option.bind_some, true_or, or_true, eq_self, if_true, if_false, ite_self, ite_true, ite_false, ↓reduceIte, reduceCtorEq, Nat.reduceEqDiff, Nat.reduceAdd, Nat.reduceLT, Nat.reduceLeDiff, Nat.reduceMul, Nat.reduceSub, not_true_eq_false, not_false_eq_true, and_self, and_true, true_and, and_false, false_and, h1.1, hq1.1, kd66, rr66_1, ix68 h1.1 hk, ix68 hq1.1 hk, nI_cl (show k < 2147483648 by omega), mR_N h1 hk, mR_N hq1 hk, c0, e0, h0', Int32.le_refl, m212 h1.1 hp.2, nI_add]) 4 0 1109 _ (by omega) v0
  have gate : ∀ g, g < S 4 0 0 → ∀ v l4 σ1, dM σ σ1 v → ∃ σ', am_w X (d + 8) 214 62 [some (.ref (66 : Nat)), some (.int (nI g)), l4] [] σ1 = am_w X (d + 8) 214 62 [some (.ref (66 : Nat)), some (.int (nI (g + 1))), some (.int (nI 9))] [] σ' ∧ dM σ σ' (dgG S g v) := by
    intro g hg v l4 σ1 hp
    have h1 := h.piB hp.1
    have c0 : ¬ nI (S 4 0 0) ≤ nI g := nI_ge (by omega) (by omega)
    obtain ⟨σ2, e2, p2⟩ := am_lps (fun k (_ : Int64) σ1 => am_w X (d + 8) 214 72 [some (.ref (66 : Nat)), some (.int (nI g)), some (.int (nI k))] [] σ1) (fun k h => mixI h (rGate S (nI g) (nI k))) 9 (fun _ v σ1 => dM σ σ1 v) (fun k v1 σ1 hk hp => by
      have h1 := h.piB hp.1
      have c0 : ¬ nI 9 ≤ nI k := nI_ge (by omega) (by decide)
      obtain ⟨σ2, e2, hp2⟩ := m177 (X := X) (d := d) h1 hO hg hk
      have q2 := dM_A hp hp2
      refine ⟨_, ?_, dM_m q2 (rGate S (nI g) (nI k))⟩
      try dsimp only
      rw [s214_72]
      simp only [s214_73, s214_75, s214_78, s214_79, s214_80, s214_81, s214_82, s214_85, s214_86, s214_89, s214_92, am_pu_s, am_pu_n, va_rf_s, va_rf_n, Option.bind_some, true_or, or_true, eq_self, if_true, if_false, ite_self, ite_true, ite_false, ↓reduceIte, reduceCtorEq, Nat.reduceEqDiff, Nat.reduceAdd, Nat.reduceLT, Nat.reduceLeDiff, Nat.reduceMul, Nat.reduceSub, not_true_eq_false, not_false_eq_true, and_self, and_true, true_and, and_false, false_and, h1.1, kd66, hp2.1, c0, e2, m212 hp2.1 q2.2, nI_add]) 9 0 v σ1 (by omega) hp
    refine ⟨σ2, ?_, p2⟩
    have c1 : nI 9 ≤ nI 9 := Int32.le_refl _
    rw [s214_62]
    simp only [s214_63, s214_64, s214_67, s214_70, s214_71, am_pu_s, am_pu_n, va_rf_s, va_rf_n, Option.bind_some, true_or, or_true, eq_self, if_true, if_false, ite_self, ite_true, ite_false, ↓reduceIte, reduceCtorEq, Nat.reduceEqDiff, Nat.reduceAdd, Nat.reduceLT, Nat.reduceLeDiff, Nat.reduceMul, Nat.reduceSub, not_true_eq_false, not_false_eq_true, and_self, and_true, true_and, and_false, false_and, h1.1, kd66, mR_G h1, c0]
    refine Eq.trans e2 ?_
    try dsimp only
    rw [s214_72]
    simp only [s214_73, s214_75, s214_95, s214_98, am_pu_s, am_pu_n, va_rf_s, va_rf_n, Option.bind_some, true_or, or_true, eq_self, if_true, if_false, ite_self, ite_true, ite_false, ↓reduceIte, reduceCtorEq, Nat.reduceEqDiff, Nat.reduceAdd, Nat.reduceLT, Nat.reduceLeDiff, Nat.reduceMul, Nat.reduceSub, not_true_eq_false, not_false_eq_true, and_self, and_true, true_and, and_false, false_and, c1, nI_add]
  obtain ⟨σ2, e2, p2⟩ := am_lps (fun k (v1 : Int64 × Option Value) σ1 => am_w X (d + 8) 214 62 [some (.ref (66 : Nat)), some (.int (nI k)), v1.2] [] σ1) (fun g p => (dgG S g p.1, some (.int (nI 9)))) (S 4 0 0) (fun _ v σ1 => dM σ σ1 v.1) (fun k v1 σ1 hk hp => gate k hk v1.1 v1.2 σ1 hp) (S 4 0 0) 0 (am_fd (dgK S) 0 4 1109, none) σ1 (by omega) p1
  have f2 := am_fd_fst (dgG S) (some (Value.int (nI 9))) (S 4 0 0) 0 (am_fd (dgK S) 0 4 1109, none)
  dsimp only at e2 f2
  rw [f2] at p2
  generalize (am_fd (fun g (p : Int64 × Option Value) => (dgG S g p.1, some (Value.int (nI 9)))) 0 (S 4 0 0) (am_fd (dgK S) 0 4 1109, none)).2 = l4 at e2
  have h2 := h.piB p2.1
  have plan : ∃ σ3, am_w X (d + 8) 214 101 [some (.ref (66 : Nat)), some (.int (nI (S 4 0 0))), l4] [] σ2 = am_w X (d + 8) 214 155 [some (.ref (66 : Nat)), some (.int (nI 0)), l4] [] σ3 ∧ dM σ σ3 (if 0 < S 4 0 0 then dgP S (am_fd (dgG S) 0 (S 4 0 0) (am_fd (dgK S) 0 4 1109)) else (am_fd (dgG S) 0 (S 4 0 0) (am_fd (dgK S) 0 4 1109))) := by
    by_cases hg : 0 < S 4 0 0
    · obtain ⟨σ3, e3, p3⟩ := m192 (X := X) (d := d) h2 hO (k := 0) (Or.inl rfl)
      have q3 := dM_m (dM_B p2 p3) (rSn S 0)
      have h3 := h.piB q3.1
      obtain ⟨σ4, e4, p4⟩ := m192 (X := X) (d := d) h3 hO (k := 1) (Or.inr (Or.inl rfl))
      have q4 := dM_m (dM_B q3 p4) (rSn S 1)
      have h4 := h.piB q4.1
      obtain ⟨σ5, e5, p5⟩ := am_lps (fun k (_ : Int64) σ1 => am_w X (d + 8) 214 131 [some (.ref (66 : Nat)), some (.int (nI k)), l4] [] σ1) (fun k h => mixI h (rSn S k)) 14 (fun k v σ1 => 10 ≤ k ∧ dM σ σ1 v) (fun k v1 σ1 hk hp => by
        obtain ⟨hk1, hp⟩ := hp
        have h1 := h.piB hp.1
        have c0 : ¬ nI 14 ≤ nI k := nI_ge (by omega) (by decide)
        obtain ⟨σ2, e2, hp2⟩ := m192 (X := X) (d := d) h1 hO (k := k) (Or.inr (Or.inr ⟨hk1, hk⟩))
        have q2 := dM_B hp hp2
        refine ⟨_, ?_, by omega, dM_m q2 (rSn S k)⟩
        try dsimp only
        rw [s214_131]
        simp only [s214_132, s214_134, s214_137, s214_138, s214_139, s214_140, s214_143, s214_144, s214_147, s214_150, am_pu_s, am_pu_n, va_rf_s, va_rf_n, Option.bind_some, true_or, or_true, eq_self, if_true, if_false, ite_self, ite_true, ite_false, ↓reduceIte, reduceCtorEq, Nat.reduceEqDiff, Nat.reduceAdd, Nat.reduceLT, Nat.reduceLeDiff, Nat.reduceMul, Nat.reduceSub, not_true_eq_false, not_false_eq_true, and_self, and_true, true_and, and_false, false_and, h1.1, kd66, hp2.1, c0, e2, m212 hp2.1 q2.2, nI_add]) 4 10 _ _ (by omega) ⟨by omega, q4⟩
      have c0 : ¬ nI (S 4 0 0) ≤ nI 0 := nI_ge hg (by omega)
      have c1 : nI 14 ≤ nI 14 := Int32.le_refl _
      refine ⟨σ5, ?_, by rw [if_pos hg]; exact p5.2⟩
      simp only [s214_101, s214_102, s214_105, s214_108, s214_109, s214_110, s214_111, s214_114, s214_115, s214_118, s214_119, s214_120, s214_121, s214_124, s214_125, s214_128, s214_130, am_pu_s, am_pu_n, va_rf_s, va_rf_n, Option.bind_some, true_or, or_true, eq_self, if_true, if_false, ite_self, ite_true, ite_false, ↓reduceIte, reduceCtorEq, Nat.reduceEqDiff, Nat.reduceAdd, Nat.reduceLT, Nat.reduceLeDiff, Nat.reduceMul, Nat.reduceSub, not_true_eq_false, not_false_eq_true, and_self, and_true, true_and, and_false, false_and, h2.1, h3.1, kd66, mR_G h2, c0, e3, p3.1, m212 p3.1 (dM_B p2 p3).2, e4, p4.1, m212 p4.1 (dM_B q3 p4).2]
      refine Eq.trans e5 ?_
      try dsimp only
      rw [s214_131]
      simp only [s214_132, s214_134, s214_153, s214_154, am_pu_s, am_pu_n, va_rf_s, va_rf_n, Option.bind_some, true_or, or_true, eq_self, if_true, if_false, ite_self, ite_true, ite_false, ↓reduceIte, reduceCtorEq, Nat.reduceEqDiff, Nat.reduceAdd, Nat.reduceLT, Nat.reduceLeDiff, Nat.reduceMul, Nat.reduceSub, not_true_eq_false, not_false_eq_true, and_self, and_true, true_and, and_false, false_and, c1]
    · have c0 : nI (S 4 0 0) ≤ nI 0 := nI_le (by omega) (by decide)
      refine ⟨σ2, ?_, by rw [if_neg hg]; exact p2⟩
      simp only [s214_101, s214_102, s214_105, s214_153, s214_154, am_pu_s, am_pu_n, va_rf_s, va_rf_n, Option.bind_some, true_or, or_true, eq_self, if_true, if_false, ite_self, ite_true, ite_false, ↓reduceIte, reduceCtorEq, Nat.reduceEqDiff, Nat.reduceAdd, Nat.reduceLT, Nat.reduceLeDiff, Nat.reduceMul, Nat.reduceSub, not_true_eq_false, not_false_eq_true, and_self, and_true, true_and, and_false, false_and, h2.1, kd66, mR_G h2, c0]
  obtain ⟨σ3, e3, p3⟩ := plan
  obtain ⟨σ4, e4, p4⟩ := am_lps (fun k (_ : Int64) σ1 => am_w X (d + 8) 214 155 [some (.ref (66 : Nat)), some (.int (nI k)), l4] [] σ1) (fun k h => mixI h (nI (S 15 k 0))) (S 14 0 0) (fun _ v σ1 => dM σ σ1 v) (fun k v1 σ1 hk hp => by
    have h1 := h.piB hp.1
    have hpg := h1.2.2.2.2.2.1
    have c0 : ¬ nI (S 14 0 0) ≤ nI k := nI_ge (by omega) (by omega)
    refine ⟨_, ?_, dM_m hp (nI (S 15 k 0))⟩
    try dsimp only
    rw [s214_155]
    simp only [s214_156, s214_157, s214_160, s214_163, s214_164, s214_165, s214_168, s214_169, s214_170, s214_171, s214_174, s214_177, am_pu_s, am_pu_n, va_rf_s, va_rf_n, Option.bind_some, true_or, or_true, eq_self, if_true, if_false, ite_self, ite_true, ite_false, ↓reduceIte, reduceCtorEq, Nat.reduceEqDiff, Nat.reduceAdd, Nat.reduceLT, Nat.reduceLeDiff, Nat.reduceMul, Nat.reduceSub, not_true_eq_false, not_false_eq_true, and_self, and_true, true_and, and_false, false_and, h1.1, kd66, rr66_17, hpg.1, c0, ix79 h1.1 (show k < 40 by omega), nI_cl (show k < 2147483648 by omega), hpg.2 k hk, m212 h1.1 hp.2, nI_add]) (S 14 0 0) 0 _ σ3 (by omega) p3
  have h4 := h.piB p4.1
  obtain ⟨σ5, e5, p5⟩ := am_lps (fun k (_ : Int64) σ1 => am_w X (d + 8) 214 182 [some (.ref (66 : Nat)), some (.int (nI k)), l4] [] σ1) (fun k h => mixI h (rCount S (nI k))) 11 (fun _ v σ1 => dM σ σ1 v) (fun k v1 σ1 hk hp => by
    have h1 := h.piB hp.1
    have c0 : ¬ nI 11 ≤ nI k := nI_ge (by omega) (by decide)
    obtain ⟨σ2, e2, hp2⟩ := m210 (X := X) (d := d) (v := nI k) h1 hO
    have q2 := dM_A hp hp2
    refine ⟨_, ?_, dM_m q2 (rCount S (nI k))⟩
    try dsimp only
    rw [s214_182]
    simp only [s214_183, s214_185, s214_188, s214_189, s214_190, s214_191, s214_194, s214_195, s214_198, s214_201, am_pu_s, am_pu_n, va_rf_s, va_rf_n, Option.bind_some, true_or, or_true, eq_self, if_true, if_false, ite_self, ite_true, ite_false, ↓reduceIte, reduceCtorEq, Nat.reduceEqDiff, Nat.reduceAdd, Nat.reduceLT, Nat.reduceLeDiff, Nat.reduceMul, Nat.reduceSub, not_true_eq_false, not_false_eq_true, and_self, and_true, true_and, and_false, false_and, h1.1, kd66, hp2.1, c0, e2, m212 hp2.1 q2.2, nI_add]) 11 0 _ σ4 (by omega) p4
  refine ⟨σ5, ?_, p5.1⟩
  have h5 := h.piB p5.1
  have c1 : nI 4 ≤ nI 4 := Int32.le_refl _
  have c2 : nI 11 ≤ nI 11 := Int32.le_refl _
  rw [s214]
  simp only [s214_0, s214_1, s214_4, s214_7, s214_8, am_pu_s, am_pu_n, va_rf_s, va_rf_n, Option.bind_some, true_or, or_true, eq_self, if_true, if_false, ite_self, ite_true, ite_false, ↓reduceIte, reduceCtorEq, Nat.reduceEqDiff, Nat.reduceAdd, Nat.reduceLT, Nat.reduceLeDiff, Nat.reduceMul, Nat.reduceSub, not_true_eq_false, not_false_eq_true, and_self, and_true, true_and, and_false, false_and, hF, kd66]
  refine Eq.trans e1 ?_
  try dsimp only
  rw [s214_9]
  simp only [s214_10, s214_11, s214_60, s214_61, am_pu_s, am_pu_n, va_rf_s, va_rf_n, Option.bind_some, true_or, or_true, eq_self, if_true, if_false, ite_self, ite_true, ite_false, ↓reduceIte, reduceCtorEq, Nat.reduceEqDiff, Nat.reduceAdd, Nat.reduceLT, Nat.reduceLeDiff, Nat.reduceMul, Nat.reduceSub, not_true_eq_false, not_false_eq_true, and_self, and_true, true_and, and_false, false_and, c1]
  refine Eq.trans e2 ?_
  rw [s214_62]
  simp only [s214_63, s214_64, s214_67, am_pu_s, am_pu_n, va_rf_s, va_rf_n, Option.bind_some, true_or, or_true, eq_self, if_true, if_false, ite_self, ite_true, ite_false, ↓reduceIte, reduceCtorEq, Nat.reduceEqDiff, Nat.reduceAdd, Nat.reduceLT, Nat.reduceLeDiff, Nat.reduceMul, Nat.reduceSub, not_true_eq_false, not_false_eq_true, and_self, and_true, true_and, and_false, false_and, h2.1, kd66, mR_G h2, Int32.le_refl]
  refine Eq.trans e3 ?_
  refine Eq.trans e4 ?_
  try dsimp only
  rw [s214_155]
  have hpg := h4.2.2.2.2.2.1
  simp only [s214_156, s214_157, s214_160, s214_180, s214_181, am_pu_s, am_pu_n, va_rf_s, va_rf_n, Option.bind_some, true_or, or_true, eq_self, if_true, if_false, ite_self, ite_true, ite_false, ↓reduceIte, reduceCtorEq, Nat.reduceEqDiff, Nat.reduceAdd, Nat.reduceLT, Nat.reduceLeDiff, Nat.reduceMul, Nat.reduceSub, not_true_eq_false, not_false_eq_true, and_self, and_true, true_and, and_false, false_and, h4.1, kd66, hpg.1, Int32.le_refl]
  refine Eq.trans e5 ?_
  try dsimp only
  rw [s214_182]
  simp only [s214_183, s214_185, s214_204, s214_205, s214_208, am_pu_s, am_pu_n, va_rf_s, va_rf_n, Option.bind_some, true_or, or_true, eq_self, if_true, if_false, ite_self, ite_true, ite_false, ↓reduceIte, reduceCtorEq, Nat.reduceEqDiff, Nat.reduceAdd, Nat.reduceLT, Nat.reduceLeDiff, Nat.reduceMul, Nat.reduceSub, not_true_eq_false, not_false_eq_true, and_self, and_true, true_and, and_false, false_and, c2, h5.1, kd66, p5.2]
  rfl
end DG
