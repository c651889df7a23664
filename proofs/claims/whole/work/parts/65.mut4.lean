/-! see, burn, write -/
def sMe (S : am_St) (b : Nat) : am_St := sV (sV (sV (sV S b 0 0) b 1 0) b 2 0) b 3 0
theorem sMe_o (S : am_St) {b j : Nat} (h : ¬ j = 3) : sMe S b j = S j := by
  unfold sMe
  rw [sV_o _ h, sV_o _ h, sV_o _ h, sV_o _ h]
def sB1 (S : am_St) (b k x : Nat) : am_St := fun a y z => if a = 0 ∧ y = b ∧ z = k then x else S a y z
theorem sB1_o (S : am_St) {b k x j : Nat} (h : ¬ j = 0) : sB1 S b k x j = S j := by
  funext y z
  exact if_neg fun q => h q.1
theorem sB1_0 (S : am_St) (b k x y z : Nat) : sB1 S b k x 0 y z = if y = b ∧ z = k then x else S 0 y z := by
  show (if 0 = 0 ∧ y = b ∧ z = k then x else S 0 y z) = _
  by_cases h : y = b ∧ z = k
  · rw [if_pos ⟨rfl, h⟩, if_pos h]
  · rw [if_neg (fun q => h q.2), if_neg h]
def sBe (S : am_St) (b : Nat) (T : am_T) (n : Nat) : am_St := am_fd (fun k S => sB1 S b k (T 9 k)) 0 n S
theorem sBe_o (S : am_St) {b n j : Nat} {T : am_T} (h : ¬ j = 0) : sBe S b T n j = S j := by
  unfold sBe
  exact am_fd_P (P := fun S1 : am_St => S1 j = S j) _ _ _ _ (fun k x _ _ q => by rw [sB1_o _ h]; exact q) rfl
theorem am_fd_g {α : Type} {f : Nat → α → α} {g : α → α} (h : ∀ k S, g (f k S) = f k (g S)) : ∀ n i S, g (am_fd f i n S) = am_fd f i n (g S)
  | 0, _, _ => rfl
  | n + 1, i, S => by
    show g (am_fd f (i + 1) n (f i S)) = am_fd f (i + 1) n (f i (g S))
    rw [am_fd_g h n (i + 1) (f i S), h]
theorem sU_B1 (S : am_St) {i a v b k x : Nat} (h : ¬ i = 0) : sU (sB1 S b k x) i a v = sB1 (sU S i a v) b k x := by
  funext p y z
  show (if p = i ∧ y = a ∧ z = 0 then v else if p = 0 ∧ y = b ∧ z = k then x else S p y z) = (if p = 0 ∧ y = b ∧ z = k then x else if p = i ∧ y = a ∧ z = 0 then v else S p y z)
  by_cases c : p = 0
  · rw [if_neg (fun q : p = i ∧ y = a ∧ z = 0 => h (by omega)), if_neg (fun q : p = i ∧ y = a ∧ z = 0 => h (by omega))]
  · rw [if_neg (fun q : p = 0 ∧ y = b ∧ z = k => c q.1), if_neg (fun q : p = 0 ∧ y = b ∧ z = k => c q.1)]
theorem sU_Be (S : am_St) {i a v b n : Nat} {T : am_T} (h : ¬ i = 0) : sU (sBe S b T n) i a v = sBe (sU S i a v) b T n := am_fd_g (f := fun k S => sB1 S b k (T 9 k)) (g := fun S => sU S i a v) (fun k S => sU_B1 S h) n 0 S
theorem sU_c (S : am_St) {i a v j b w : Nat} (h : ¬ i = j) : sU (sU S i a v) j b w = sU (sU S j b w) i a v := by
  funext p y z
  show (if p = j ∧ y = b ∧ z = 0 then w else if p = i ∧ y = a ∧ z = 0 then v else S p y z) = (if p = i ∧ y = a ∧ z = 0 then v else if p = j ∧ y = b ∧ z = 0 then w else S p y z)
  by_cases c : p = j
  · have c' : ¬ p = i := fun q => h (by omega)
    rw [if_neg (fun q : p = i ∧ y = a ∧ z = 0 => c' q.1), if_neg (fun q : p = i ∧ y = a ∧ z = 0 => c' q.1)]
  · rw [if_neg (fun q : p = j ∧ y = b ∧ z = 0 => c q.1), if_neg (fun q : p = j ∧ y = b ∧ z = 0 => c q.1)]
section MU
variable {X : am_X} {d N : Nat} {σ σ' : am_M} {S S' : am_St} {v w : Int32}
theorem cRep_sn (h : cRep S σ) {i n x : Nat} (h1 : 11 ≤ i) (h3 : i ≤ 13) (hn : n < 8) : cRep (sU S i n x) (am_wI σ (i + 1) n (nI x)) := by
  have e : ∀ j, (j < 11 ∨ 14 ≤ j) → sU S i n x j = S j := fun j q => sU_o S (by omega)
  refine cRep_n h (fun j q => e j (by omega)) h.1 ?_ (fun a k q => by rw [am_I_wI, if_neg (by omega)])
  obtain ⟨w1, w2, w3, w4⟩ := h.2.1
  have sf : ∀ j, j < 8 → ∀ f, 11 ≤ f → f ≤ 13 → am_I (am_wI σ (i + 1) n (nI x)) (f + 1) j = nI (sU S i n x f j 0) := fun j hj f q1 q2 => by
    rw [sU_if, am_I_wI]
    by_cases c : f = i ∧ j = n
    · rw [if_pos c, if_pos (by omega)]
    · rw [if_neg c, if_neg (by omega)]
      obtain ⟨a1, a2, a3⟩ := w4.2 j hj
      have : f = 11 ∨ f = 12 ∨ f = 13 := by omega
      rcases this with rfl | rfl | rfl
      · exact a1
      · exact a2
      · exact a3
  refine ⟨?_, fun b hb => ⟨?_, fun q => ?_⟩, fun g hg => ?_, ?_, fun j hj => ⟨sf j hj 11 (by decide) (by decide), sf j hj 12 (by decide) (by decide), sf j hj 13 (by decide) (by decide)⟩⟩
  · rw [am_I_wI, if_neg (by omega), e _ (by omega)]; exact w1
  · rw [e _ (by omega), e _ (by omega), e _ (by omega)]
    exact (w2 b hb).1.pr fun a k q1 q2 => by rw [am_I_wI, if_neg (by omega)]
  · rw [e _ (by omega)] at q
    rw [am_I_wI, if_neg (by omega), e _ (by omega)]; exact (w2 b hb).2 q
  · rw [e _ (by omega), e _ (by omega), e _ (by omega), e _ (by omega), e _ (by omega)]
    exact (w3 g hg).pr fun j => by rw [am_I_wI, if_neg (by omega)]
  · rw [am_I_wI, if_neg (by omega), e _ (by omega)]; exact w4.1
theorem cRep_sc (h : cRep S σ) {x : Nat} : cRep (sU S 10 0 x) (am_wI σ 11 3 (nI x)) := by
  refine cRep_n h (fun i q => sU_o S (by omega)) h.1 ?_ (fun a k q => by rw [am_I_wI, if_neg (by omega)])
  obtain ⟨w1, w2, w3, w4⟩ := h.2.1
  refine ⟨?_, fun b hb => ⟨(w2 b hb).1.pr fun a k q1 q2 => ?_, fun q => ?_⟩, fun g hg => (w3 g hg).pr fun j => ?_, ?_, fun j hj => ?_⟩
  · rw [am_I_wI, if_neg (by omega)]; exact w1
  · rw [am_I_wI, if_neg (by omega)]
  · rw [am_I_wI, if_neg (by omega)]; exact (w2 b hb).2 q
  · rw [am_I_wI, if_neg (by omega)]
  · rw [am_I_wI, if_pos ⟨rfl, rfl⟩]; rfl
  · rw [am_I_wI, if_neg (by omega), am_I_wI, if_neg (by omega), am_I_wI, if_neg (by omega)]; exact w4.2 j hj
theorem mRep_sn (h : mRep S σ) {i n x : Nat} (h1 : 11 ≤ i) (h3 : i ≤ 13) (hn : n < 8) : mRep (sU S i n x) (am_wI σ (i + 65) n (nI x)) := by
  have e : ∀ j, (j < 11 ∨ 14 ≤ j) → sU S i n x j = S j := fun j q => sU_o S (by omega)
  refine mRep_n h (fun j q => e j (by omega)) (e _ (by omega)) (e _ (by omega)) h.1 ?_ (by rw [am_I_wI, if_neg (by omega), e _ (by omega)]; exact mR_sn h) (fun a k q => by rw [am_I_wI, if_neg (by omega)])
  obtain ⟨w1, w2, w3⟩ := h.2.1
  have sf : ∀ j, j < 8 → ∀ f, 11 ≤ f → f ≤ 13 → am_I (am_wI σ (i + 65) n (nI x)) (f + 65) j = nI (sU S i n x f j 0) := fun j hj f q1 q2 => by
    rw [sU_if, am_I_wI]
    by_cases c : f = i ∧ j = n
    · rw [if_pos c, if_pos (by omega)]
    · rw [if_neg c, if_neg (by omega)]
      obtain ⟨a1, a2, a3⟩ := w3 j hj
      have : f = 11 ∨ f = 12 ∨ f = 13 := by omega
      rcases this with rfl | rfl | rfl
      · exact a1
      · exact a2
      · exact a3
  refine ⟨fun b hb => ?_, fun g hg => ?_, fun j hj => ⟨sf j hj 11 (by decide) (by decide), sf j hj 12 (by decide) (by decide), sf j hj 13 (by decide) (by decide)⟩⟩
  · obtain ⟨a1, a2, a3, a4⟩ := w1 b hb
    rw [e _ (by omega), e _ (by omega), e _ (by omega), e _ (by omega)]
    exact ⟨fun j hj => by rw [am_I_wI, if_neg (by omega)]; exact a1 j hj, by rw [am_I_wI, if_neg (by omega)]; exact a2, fun q => by rw [am_I_wI, if_neg (by omega)]; exact a3 q, fun g' hg' => by rw [am_I_wI, if_neg (by omega)]; exact a4 g' hg'⟩
  · rw [am_I_wI, if_neg (by omega), am_I_wI, if_neg (by omega), am_I_wI, if_neg (by omega), am_I_wI, if_neg (by omega), e _ (by omega), e _ (by omega), e _ (by omega), e _ (by omega)]
    exact w2 g hg
theorem mRep_sc (h : mRep S σ) {x : Nat} : mRep (sU S 10 0 x) (am_wI σ 66 12 (nI x)) := by
  refine mRep_n h (fun i q => sU_o S (by omega)) (sU_o S (by omega)) (sU_o S (by omega)) h.1 ?_ (by rw [am_I_wI, if_pos ⟨rfl, rfl⟩]; rfl) (fun a k q => by rw [am_I_wI, if_neg (by omega)])
  have h2 := h.2.1.pr (σ' := am_wI σ 66 12 (nI x)) fun a k ha => by
    simp at ha
    rw [am_I_wI, if_neg (by omega)]
  exact h2
def sSn (S : am_St) (g p f : Nat) : am_St := sU (sU (sU (sU S 11 (S 10 0 0) g) 12 (S 10 0 0) p) 13 (S 10 0 0) f) 10 0 (S 10 0 0 + 1)
theorem sSn_o (S : am_St) (g p f : Nat) {j : Nat} (h : j < 10 ∨ 14 ≤ j) : sSn S g p f j = S j := by
  unfold sSn
  rw [sU_o _ (by omega), sU_o _ (by omega), sU_o _ (by omega), sU_o _ (by omega)]
def oSee (S : am_St) (v w : Int32) (f : Nat) : Int32 × am_St := match tI S v, gI S w with
  | some b, some g => if S 10 0 0 = 8 then (-104, S) else (nI (S 10 0 0 + 1), sSn S g (sPy S b g) f)
  | _, _ => (-101, S)
theorem oSee_ok (h : sOK N S) {f : Nat} (hf : f ≤ 1) : sOK (N + 1) (oSee S v w f).2 := by
  have hn := sO_sn h
  unfold oSee
  rcases tI_c S v with ⟨b, hb, rfl, h0, e⟩ | e
  · rcases gI_c (sO_G h) w with ⟨g, hg, hg4, rfl, eg⟩ | eg
    · rw [e, eg]
      dsimp only
      split
      · exact sOK_up h
      · rename_i c
        have py := sPy_le (g := g) h hb
        have e := fun j q => sSn_o S g (sPy S b g) f (j := j) q
        refine sOK_n (S' := sSn S g (sPy S b g) f) h (fun j q => e j (by omega)) (e _ (by omega)) (e _ (by omega)) ?_
        obtain ⟨w1, w2, w3, w4, w5⟩ := h.1
        refine ⟨fun b' hb' => ?_, ?_, fun g' hg' => ?_, ?_, fun j hj => ?_⟩
        · rw [e _ (by omega), e _ (by omega), e _ (by omega), e _ (by omega)]; exact w1 b' hb'
        · rw [e _ (by omega)]; exact w2
        · rw [e _ (by omega), e _ (by omega), e _ (by omega)]; exact w3 g' hg'
        · show S 10 0 0 + 1 ≤ 8
          omega
        · obtain ⟨x1, x2, x3⟩ := w5 j hj
          have x1' : S 11 j 0 < 4 := x1
          have x2' : S 12 j 0 ≤ 2000 := x2
          have x3' : S 13 j 0 ≤ 1 := x3
          unfold sSn
          rw [sU_o _ (by omega), sU_o _ (by omega), sU_o _ (by omega), sU_at, sU_o _ (by omega), sU_o _ (by omega), sU_at, sU_o _ (by omega), sU_o _ (by omega), sU_at, sU_o _ (by omega), sU_o _ (by omega)]
          refine ⟨?_, ?_, ?_⟩
          · split
            · exact hg4
            · exact x1'
          · split
            · omega
            · exact x2'
          · split
            · exact hf
            · exact x3'
    · rw [e, eg]
      exact sOK_up h
  · rw [e]
    exact sOK_up h
theorem zb_nI : ∀ f, f ≤ 1 → vp_nar .boolean (nI f) = nI f := by decide +kernel
theorem m40 (h : cRep S σ) (hO : sOK N S) {g p f : Nat} (hf : f ≤ 1) (h8 : ¬ S 10 0 0 = 8) : ∃ σ', am_v X (d + 1) 40 [.ref (11 : Nat), .int (nI g), .int (nI p), .int (nI f)] σ = some (none, σ') ∧ cRep (sSn S g p f) σ' ∧ am_pi nsM σ σ' := by
  have hF := h.1
  have hn := sO_sn hO
  have hn8 : S 10 0 0 < 8 := by omega
  have h1 := cRep_sn (i := 11) (x := g) h (by decide) (by decide) hn8
  have h2 := cRep_sn (i := 12) (x := p) h1 (by decide) (by decide) hn8
  have h3 := cRep_sn (i := 13) (x := f) h2 (by decide) (by decide) hn8
  have h4 := cRep_sc (x := S 10 0 0 + 1) h3
  have pp : am_pi nsM σ (am_wI (am_wI (am_wI (am_wI σ 12 (S 10 0 0) (nI g)) 13 (S 10 0 0) (nI p)) 14 (S 10 0 0) (nI f)) 11 3 (nI (S 10 0 0 + 1))) := ((((am_pi.rf hF).w (by rfl)).w (by rfl)).w (by rfl)).w (by rfl)
  refine ⟨_, ?_, h4, pp⟩
  have t : nI (S 10 0 0) < nI 8 := nI_lt hn8 (by decide)
  rw [s40]
  simp only [s40_0, s40_1, s40_4, s40_6, s40_9, s40_10, s40_11, s40_14, s40_15, s40_18, s40_19, s40_20, s40_21, s40_24, s40_25, s40_28, s40_29, s40_30, s40_31, s40_34, s40_35, s40_38, s40_39, s40_40, s40_41, s40_42, s40_45, s40_46, s40_47, s40_50, am_pu_s, am_pu_n, va_rf_s, va_rf_n, Option.bind_some, true_or, or_true, eq_self, if_true, if_false, ite_self, ite_true, ite_false, ↓reduceIte, reduceCtorEq, Nat.reduceEqDiff, Nat.reduceAdd, Nat.reduceLT, Nat.reduceLeDiff, Nat.reduceMul, Nat.reduceSub, not_true_eq_false, not_false_eq_true, and_self, and_true, true_and, and_false, false_and, am_I_wI, am_I_wJ, am_J_wI, am_J_wJ, am_R_wI, am_R_wJ, am_kd_wI, am_kd_wJ, am_ln_wI, am_ln_wJ, am_ix_wI, am_ix_wJ, am_F_wI, am_F_wJ, am_I_wC, am_J_wC, am_R_wC, am_kd_wC, am_ln_wC, am_ix_wC, am_F_wC, hF, kd11, rr11_0, rr11_1, rr11_2, cR_sn h, t, ix12 hF hn8, ix13 hF hn8, ix14 hF hn8, nI_cl (show S 10 0 0 < 2147483648 by omega), zb_nI f hf, nI_add]
theorem c108 (h : cRep S σ) (hO : sOK N S) {f : Nat} (hf : f ≤ 1) : ∃ σ', am_v X (d + 6) 108 [.ref (0 : Nat), .int v, .int w, .int (nI f)] σ = some (some (.int (oSee S v w f).1), σ') ∧ cRep (oSee S v w f).2 σ' ∧ am_pi nsM σ σ' := by
  have hF := h.1
  have hn := sO_sn hO
  unfold oSee
  rw [s108]
  rcases tI_c S v with ⟨b, hb, rfl, h0, e⟩ | e
  · rcases gI_c (sO_G hO) w with ⟨g, hg, hg4, rfl, eg⟩ | eg
    · rw [e, eg]
      dsimp only
      by_cases c : S 10 0 0 = 8
      · rw [if_pos c]
        have t : ¬ nI (S 10 0 0) < nI 8 := nI_nlt (by omega) (by omega)
        refine ⟨σ, ?_, h, am_pi.rf hF⟩
        simp only [s108_0, s108_1, s108_4, s108_5, s108_8, s108_8n, s108_10, s108_11, s108_14, s108_15, s108_18, s108_18n, s108_20, s108_20n, s108_22n, s108_22, s108_25, s108_25n, s108_27n, s108_27, s108_30, s108_32, s108_33, s108_34, s108_37, s108_40, s108_43, s108_45, s108_48, s108_50, s108_51, s108_52, s108_55, s108_58, s108_59, s108_60, s108_63, s108_63n, s108_65, s108_65n, s108_67, s108_67n, s108_69, s108_72, s108_75, s108_76, s108_79, s108_80, s108_83, s108_86, s108_89, am_pu_s, am_pu_n, va_rf_s, va_rf_n, Option.bind_some, true_or, or_true, eq_self, if_true, if_false, ite_self, ite_true, ite_false, ↓reduceIte, reduceCtorEq, Nat.reduceEqDiff, Nat.reduceAdd, Nat.reduceLT, Nat.reduceLeDiff, Nat.reduceMul, Nat.reduceSub, not_true_eq_false, not_false_eq_true, and_self, and_true, true_and, and_false, false_and, hF, kd0, rr0_2, rr8_2, kd8, kd11, m76s h hO hb h0, m77s h hO hg hg4, cR_sn h, t]
      · rw [if_neg c]
        have t : nI (S 10 0 0) < nI 8 := nI_lt (by omega) (by decide)
        have hwd := sO_Wd hO hg4
        obtain ⟨σ2, e2, hp2⟩ := m10 (X := X) (d := d) hF (w := S 7 g 0) (isTu8 hb) (cR_T h hb) (sO_N hO hb) (fun j hj => sO_B hO hb hj) (isGa8 hg4) hg4 (cR_no h hg4) (cR_K h hg4) (sO_K hO hg4) (by omega) (sO_W hO hb hg4)
        rw [← sPy] at e2
        have h2 := h.prA hp2
        obtain ⟨σ3, e3, h3, p3⟩ := m40 (X := X) (d := d + 4) (g := g) (p := sPy S b g) h2 hO hf c
        have r3 := cR_sn h3
        refine ⟨σ3, ?_, h3, hp2.A_M.i.tr p3⟩
        have r3' : am_I σ3 11 3 = nI (S 10 0 0 + 1) := r3
        simp only [s108_0, s108_1, s108_4, s108_5, s108_8, s108_8n, s108_10, s108_11, s108_14, s108_15, s108_18, s108_18n, s108_20, s108_20n, s108_22n, s108_22, s108_25, s108_25n, s108_27n, s108_27, s108_30, s108_32, s108_33, s108_34, s108_37, s108_40, s108_43, s108_45, s108_48, s108_50, s108_51, s108_52, s108_55, s108_58, s108_59, s108_60, s108_63, s108_63n, s108_65, s108_65n, s108_67, s108_67n, s108_69, s108_72, s108_75, s108_76, s108_79, s108_80, s108_83, s108_86, s108_89, am_pu_s, am_pu_n, va_rf_s, va_rf_n, Option.bind_some, true_or, or_true, eq_self, if_true, if_false, ite_self, ite_true, ite_false, ↓reduceIte, reduceCtorEq, Nat.reduceEqDiff, Nat.reduceAdd, Nat.reduceLT, Nat.reduceLeDiff, Nat.reduceMul, Nat.reduceSub, not_true_eq_false, not_false_eq_true, and_self, and_true, true_and, and_false, false_and, hF, h2.1, h3.1, kd0, rr0_2, rr0_4, rr8_2, kd8, kd11, kd54, m76s h hO hb h0, m77s h hO hg hg4, cR_sn h, t, kdG hF (isGa8 hg4), cR_Wd h hg4, e2, e3, r3']
    · rw [e, eg]
      refine ⟨σ, ?_, h, am_pi.rf hF⟩
      simp only [s108_0, s108_1, s108_4, s108_5, s108_8, s108_8n, s108_10, s108_11, s108_14, s108_15, s108_18, s108_18n, s108_20, s108_20n, s108_22n, s108_22, s108_25, s108_25n, s108_27n, s108_27, s108_30, s108_32, s108_33, s108_34, s108_37, s108_40, s108_43, s108_45, s108_48, s108_50, s108_51, s108_52, s108_55, s108_58, s108_59, s108_60, s108_63, s108_63n, s108_65, s108_65n, s108_67, s108_67n, s108_69, s108_72, s108_75, s108_76, s108_79, s108_80, s108_83, s108_86, s108_89, am_pu_s, am_pu_n, va_rf_s, va_rf_n, Option.bind_some, true_or, or_true, eq_self, if_true, if_false, ite_self, ite_true, ite_false, ↓reduceIte, reduceCtorEq, Nat.reduceEqDiff, Nat.reduceAdd, Nat.reduceLT, Nat.reduceLeDiff, Nat.reduceMul, Nat.reduceSub, not_true_eq_false, not_false_eq_true, and_self, and_true, true_and, and_false, false_and, hF, kd0, rr0_2, kd8, m76s h hO hb h0, m77n h hO eg]
  · rw [e]
    refine ⟨σ, ?_, h, am_pi.rf hF⟩
    rcases gI_c (sO_G hO) w with ⟨g, hg, hg4, rfl, eg⟩ | eg
    · simp only [s108_0, s108_1, s108_4, s108_5, s108_8, s108_8n, s108_10, s108_11, s108_14, s108_15, s108_18, s108_18n, s108_20, s108_20n, s108_22n, s108_22, s108_25, s108_25n, s108_27n, s108_27, s108_30, s108_32, s108_33, s108_34, s108_37, s108_40, s108_43, s108_45, s108_48, s108_50, s108_51, s108_52, s108_55, s108_58, s108_59, s108_60, s108_63, s108_63n, s108_65, s108_65n, s108_67, s108_67n, s108_69, s108_72, s108_75, s108_76, s108_79, s108_80, s108_83, s108_86, s108_89, am_pu_s, am_pu_n, va_rf_s, va_rf_n, Option.bind_some, true_or, or_true, eq_self, if_true, if_false, ite_self, ite_true, ite_false, ↓reduceIte, reduceCtorEq, Nat.reduceEqDiff, Nat.reduceAdd, Nat.reduceLT, Nat.reduceLeDiff, Nat.reduceMul, Nat.reduceSub, not_true_eq_false, not_false_eq_true, and_self, and_true, true_and, and_false, false_and, hF, kd0, rr0_2, kd8, m76n h e, m77s h hO hg hg4]
    · simp only [s108_0, s108_1, s108_4, s108_5, s108_8, s108_8n, s108_10, s108_11, s108_14, s108_15, s108_18, s108_18n, s108_20, s108_20n, s108_22n, s108_22, s108_25, s108_25n, s108_27n, s108_27, s108_30, s108_32, s108_33, s108_34, s108_37, s108_40, s108_43, s108_45, s108_48, s108_50, s108_51, s108_52, s108_55, s108_58, s108_59, s108_60, s108_63, s108_63n, s108_65, s108_65n, s108_67, s108_67n, s108_69, s108_72, s108_75, s108_76, s108_79, s108_80, s108_83, s108_86, s108_89, am_pu_s, am_pu_n, va_rf_s, va_rf_n, Option.bind_some, true_or, or_true, eq_self, if_true, if_false, ite_self, ite_true, ite_false, ↓reduceIte, reduceCtorEq, Nat.reduceEqDiff, Nat.reduceAdd, Nat.reduceLT, Nat.reduceLeDiff, Nat.reduceMul, Nat.reduceSub, not_true_eq_false, not_false_eq_true, and_self, and_true, true_and, and_false, false_and, hF, kd0, rr0_2, kd8, m76n h e, m77n h hO eg]
theorem sOK_s11 (h : sOK N S) {n g : Nat} (hg : g < 4) : sOK N (sU S 11 n g) := by
  have e : ∀ j, ¬ j = 11 → sU S 11 n g j = S j := fun j q => sU_o S q
  refine sOK_m h (fun j q => e j (by omega)) (e _ (by omega)) (e _ (by omega)) ?_
  obtain ⟨w1, w2, w3, w4, w5⟩ := h.1
  refine ⟨fun b' hb' => ?_, ?_, fun g' hg' => ?_, ?_, fun j hj => ?_⟩
  · rw [e _ (by omega), e _ (by omega), e _ (by omega), e _ (by omega)]; exact w1 b' hb'
  · rw [e _ (by omega)]; exact w2
  · rw [e _ (by omega), e _ (by omega), e _ (by omega)]; exact w3 g' hg'
  · rw [e _ (by omega)]; exact w4
  · obtain ⟨x1, x2, x3⟩ := w5 j hj
    rw [e (0 + 12) (by decide), e (0 + 13) (by decide)]
    refine ⟨?_, x2, x3⟩
    show sU S 11 n g 11 j 0 < 4
    rw [sU_at]
    split
    · exact hg
    · exact x1
theorem c194 (h : mRep S σ) (hO : sOK N S) {f : Nat} (hf : f ≤ 1) : ∃ σ', am_v X (d + 7) 194 [.ref (66 : Nat), .int v, .int w, .int (nI f)] σ = some (some (.int (oSee S v w f).1), σ') ∧ mRep (oSee S v w f).2 σ' ∧ am_pi nsC σ σ' := by
  have hF := h.1
  have hn := sO_sn hO
  unfold oSee
  rw [s194]
  rcases tI_c S v with ⟨b, hb, rfl, h0, e⟩ | e
  · have h152 : ∀ d, am_v X (d + 2) 152 [.ref (66 : Nat), .int (nI b)] σ = some (some (.int (nI 1)), σ) := fun d => m152s h hO hb h0
    rcases gI_c (sO_G hO) w with ⟨g, hg, hg4, rfl, eg⟩ | eg
    · rw [e, eg]
      dsimp only
      have h153 : ∀ d, am_v X (d + 2) 153 [.ref (66 : Nat), .int (nI g)] σ = some (some (.int (nI 1)), σ) := fun d => m153s h hO hg
      have e8 : (nI (S 10 0 0) = nI 8) = (S 10 0 0 = 8) := nI_EQ (by omega) (by decide)
      by_cases c : S 10 0 0 = 8
      · rw [if_pos c]
        have t : (nI (S 10 0 0) = nI 8) = True := by rw [e8]; exact eq_true c
        refine ⟨σ, ?_, h, am_pi.rf hF⟩
        simp only [s194_0, s194_1, s194_2, s194_5, s194_8, s194_9, s194_10, s194_13, s194_16, s194_18, s194_19, s194_20, s194_23, s194_25, s194_28, s194_30, s194_31, s194_32, s194_35, s194_36, s194_39, s194_40, s194_41, s194_42, s194_45, s194_46, s194_49, s194_50, s194_51, s194_52, s194_55, s194_56, s194_57, s194_60, s194_61, s194_64, s194_65, s194_68, s194_69, s194_72, s194_73, s194_74, s194_75, s194_76, s194_79, s194_80, s194_81, s194_84, s194_85, s194_88, am_pu_s, am_pu_n, va_rf_s, va_rf_n, Option.bind_some, true_or, or_true, eq_self, if_true, if_false, ite_self, ite_true, ite_false, ↓reduceIte, reduceCtorEq, Nat.reduceEqDiff, Nat.reduceAdd, Nat.reduceLT, Nat.reduceLeDiff, Nat.reduceMul, Nat.reduceSub, not_true_eq_false, not_false_eq_true, and_self, and_true, true_and, and_false, false_and, hF, kd66, h152, h153, nI_10, mR_sn h, t]
      · rw [if_neg c]
        have t : ¬ nI (S 10 0 0) = nI 8 := by rw [e8]; exact c
        have hn8 : S 10 0 0 < 8 := by omega
        have h1 := mRep_sn (i := 11) (x := g) h (by decide) (by decide) hn8
        have hO1 := sOK_s11 (n := S 10 0 0) hO hg4
        obtain ⟨σ2, e2, hp2⟩ := m176 (X := X) (d := d) h1 hO1 hb hg4
        rw [sU_o S (show ¬ 5 = 11 by decide), sU_o S (show ¬ 0 = 11 by decide), sU_o S (show ¬ 7 = 11 by decide), sU_o S (show ¬ 1 = 11 by decide), sU_o S (show ¬ 3 = 11 by decide), ← sPy] at e2
        have h2 := h1.prA hp2
        have h3 := mRep_sn (i := 12) (x := sPy S b g) h2 (by decide) (by decide) hn8
        have h4 := mRep_sn (i := 13) (x := f) h3 (by decide) (by decide) hn8
        have h5 := mRep_sc (x := S 10 0 0 + 1) h4
        have p0 : am_pi nsC σ σ2 := ((am_pi.rf hF).w (by rfl)).tr hp2.A_C.i
        have pp : am_pi nsC σ (am_wI (am_wI (am_wI σ2 77 (S 10 0 0) (nI (sPy S b g))) 78 (S 10 0 0) (nI f)) 66 12 (nI (S 10 0 0 + 1))) := ((p0.w (by rfl)).w (by rfl)).w (by rfl)
        refine ⟨_, ?_, h5, pp⟩
        have hF2 := h2.1
        have r2 := mR_sn h2
        rw [sU_o S (show ¬ 10 = 11 by decide)] at r2
        have e3 : (12 + 65 : Nat) = 77 := rfl
        have hf2 : f = 0 ∨ f = 1 := by omega
        rcases hf2 with rfl | rfl
        · simp only [s194_0, s194_1, s194_2, s194_5, s194_8, s194_9, s194_10, s194_13, s194_16, s194_18, s194_19, s194_20, s194_23, s194_25, s194_28, s194_30, s194_31, s194_32, s194_35, s194_36, s194_39, s194_40, s194_41, s194_42, s194_45, s194_46, s194_49, s194_50, s194_51, s194_52, s194_55, s194_56, s194_57, s194_60, s194_61, s194_64, s194_65, s194_68, s194_69, s194_72, s194_73, s194_74, s194_75, s194_76, s194_79, s194_80, s194_81, s194_84, s194_85, s194_88, am_pu_s, am_pu_n, va_rf_s, va_rf_n, Option.bind_some, true_or, or_true, eq_self, if_true, if_false, ite_self, ite_true, ite_false, ↓reduceIte, reduceCtorEq, Nat.reduceEqDiff, Nat.reduceAdd, Nat.reduceLT, Nat.reduceLeDiff, Nat.reduceMul, Nat.reduceSub, not_true_eq_false, not_false_eq_true, and_self, and_true, true_and, and_false, false_and, am_I_wI, am_I_wJ, am_J_wI, am_J_wJ, am_R_wI, am_R_wJ, am_kd_wI, am_kd_wJ, am_ln_wI, am_ln_wJ, am_ix_wI, am_ix_wJ, am_F_wI, am_F_wJ, am_I_wC, am_J_wC, am_R_wC, am_kd_wC, am_ln_wC, am_ix_wC, am_F_wC, hF, hF2, kd66, rr66_13, rr66_14, rr66_15, h152, h153, nI_10, mR_sn h, r2, t, ix76 hF hn8, ix77 hF hn8, ix77 hF2 hn8, ix78 hF2 hn8, nI_cl (show S 10 0 0 < 2147483648 by omega), e2, nI_add]
        · simp only [s194_0, s194_1, s194_2, s194_5, s194_8, s194_9, s194_10, s194_13, s194_16, s194_18, s194_19, s194_20, s194_23, s194_25, s194_28, s194_30, s194_31, s194_32, s194_35, s194_36, s194_39, s194_40, s194_41, s194_42, s194_45, s194_46, s194_49, s194_50, s194_51, s194_52, s194_55, s194_56, s194_57, s194_60, s194_61, s194_64, s194_65, s194_68, s194_69, s194_72, s194_73, s194_74, s194_75, s194_76, s194_79, s194_80, s194_81, s194_84, s194_85, s194_88, am_pu_s, am_pu_n, va_rf_s, va_rf_n, Option.bind_some, true_or, or_true, eq_self, if_true, if_false, ite_self, ite_true, ite_false, ↓reduceIte, reduceCtorEq, Nat.reduceEqDiff, Nat.reduceAdd, Nat.reduceLT, Nat.reduceLeDiff, Nat.reduceMul, Nat.reduceSub, not_true_eq_false, not_false_eq_true, and_self, and_true, true_and, and_false, false_and, am_I_wI, am_I_wJ, am_J_wI, am_J_wJ, am_R_wI, am_R_wJ, am_kd_wI, am_kd_wJ, am_ln_wI, am_ln_wJ, am_ix_wI, am_ix_wJ, am_F_wI, am_F_wJ, am_I_wC, am_J_wC, am_R_wC, am_kd_wC, am_ln_wC, am_ix_wC, am_F_wC, hF, hF2, kd66, rr66_13, rr66_14, rr66_15, h152, h153, nI_10, mR_sn h, r2, t, ix76 hF hn8, ix77 hF hn8, ix77 hF2 hn8, ix78 hF2 hn8, nI_cl (show S 10 0 0 < 2147483648 by omega), e2, nI_add]
    · rw [e, eg]
      refine ⟨σ, ?_, h, am_pi.rf hF⟩
      simp only [s194_0, s194_1, s194_2, s194_5, s194_8, s194_9, s194_10, s194_13, s194_16, s194_18, s194_19, s194_20, s194_23, s194_25, s194_28, s194_30, s194_31, s194_32, s194_35, s194_36, s194_39, s194_40, s194_41, s194_42, s194_45, s194_46, s194_49, s194_50, s194_51, s194_52, s194_55, s194_56, s194_57, s194_60, s194_61, s194_64, s194_65, s194_68, s194_69, s194_72, s194_73, s194_74, s194_75, s194_76, s194_79, s194_80, s194_81, s194_84, s194_85, s194_88, am_pu_s, am_pu_n, va_rf_s, va_rf_n, Option.bind_some, true_or, or_true, eq_self, if_true, if_false, ite_self, ite_true, ite_false, ↓reduceIte, reduceCtorEq, Nat.reduceEqDiff, Nat.reduceAdd, Nat.reduceLT, Nat.reduceLeDiff, Nat.reduceMul, Nat.reduceSub, not_true_eq_false, not_false_eq_true, and_self, and_true, true_and, and_false, false_and, hF, kd66, h152, nI_10, m153n h hO eg]
  · rw [e]
    refine ⟨σ, ?_, h, am_pi.rf hF⟩
    simp only [s194_0, s194_1, s194_2, s194_5, s194_8, s194_9, s194_10, s194_13, s194_16, s194_18, s194_19, s194_20, s194_23, s194_25, s194_28, s194_30, s194_31, s194_32, s194_35, s194_36, s194_39, s194_40, s194_41, s194_42, s194_45, s194_46, s194_49, s194_50, s194_51, s194_52, s194_55, s194_56, s194_57, s194_60, s194_61, s194_64, s194_65, s194_68, s194_69, s194_72, s194_73, s194_74, s194_75, s194_76, s194_79, s194_80, s194_81, s194_84, s194_85, s194_88, am_pu_s, am_pu_n, va_rf_s, va_rf_n, Option.bind_some, true_or, or_true, eq_self, if_true, if_false, ite_self, ite_true, ite_false, ↓reduceIte, reduceCtorEq, Nat.reduceEqDiff, Nat.reduceAdd, Nat.reduceLT, Nat.reduceLeDiff, Nat.reduceMul, Nat.reduceSub, not_true_eq_false, not_false_eq_true, and_self, and_true, true_and, and_false, false_and, hF, kd66, m152n h e]
end MU
