/-! the law's loop -/
theorem lx_ix {X : am_X} {i k : Nat} (h : i + 4 ≤ X.2) (hk : k < 4) (h2 : X.2 ≤ 256) : (!decide (nI (i + k) < 0) && decide ((nI (i + k)).toNatClampNeg < X.2)) = true := by
  have h1 : (nI (i + k)).toNatClampNeg = i + k := nI_clamp (by omega)
  have h3 : ¬ nI (i + k) < 0 := nI_pos (by omega)
  rw [h1]
  simp only [h3, decide_false, Bool.not_false, Bool.true_and, decide_eq_true_eq]
  omega
theorem lx_cl {X : am_X} {i k : Nat} (h : i + 4 ≤ X.2) (hk : k < 4) (h2 : X.2 ≤ 256) : (nI (i + k)).toNatClampNeg = i + k := nI_clamp (by omega)
section LW
variable {X : am_X} {σ : am_M} {S : am_St} {N i : Nat} {u : UInt64}
theorem lx_0 (hc : cRep S σ) (hm : mRep S σ) (hO : sOK N S) (hN : N < 1000) (h4 : i + 4 ≤ X.2) (h256 : X.2 ≤ 256) : ∃ S' σ', am_w X 10 0 164 [some (.double u), some (.ref (0 : Nat)), some (.ref (66 : Nat)), some (.int (nI i))] [] σ = am_w X 10 0 958 [some (.double u), some (.ref (0 : Nat)), some (.ref (66 : Nat)), some (.int (nI i))] [] σ' ∧ cRep S' σ' ∧ mRep S' σ' ∧ sOK (N + 1) S' := by
  have hx1 := lx_ix (X := X) (i := i) (k := 1) h4 (by decide) h256
  have cx1 := lx_cl (X := X) (i := i) (k := 1) h4 (by decide) h256
  obtain ⟨σ1, e1, r1, p1⟩ := c86 (X := X) (d := 8) (v := (X.1 (i + 1))) hc hO
  have e1 : am_v X 10 86 _ _ = _ := e1
  have hm1 := hm.pi p1
  obtain ⟨σ2, e2, r2, p2⟩ := c130 (X := X) (d := 8) (v := (X.1 (i + 1))) hm1 hO
  have e2 : am_v X 10 130 _ _ = _ := e2
  refine ⟨(oLet S (X.1 (i + 1))).2, σ2, ?_, r1.pi p2, r2, oLet_ok hO⟩
  simp only [s0_164, s0_165, s0_166, s0_167, s0_168, s0_169 (i := nI (i + 1)) hx1, s0_170, s0_173, s0_174, s0_175, s0_176, s0_177, s0_178 (i := nI (i + 1)) hx1, s0_179, s0_182, s0_185, am_pu_s, am_pu_n, va_rf_s, va_rf_n, Option.bind_some, true_or, or_true, eq_self, if_true, if_false, ite_self, ite_true, ite_false, ↓reduceIte, reduceCtorEq, Nat.reduceEqDiff, Nat.reduceAdd, Nat.reduceLT, Nat.reduceLeDiff, Nat.reduceMul, Nat.reduceSub, not_true_eq_false, not_false_eq_true, and_self, and_true, true_and, and_false, false_and, nI_add, cx1, kd0 hc.1, kd66 hm1.1, e1, e2]
theorem lx_1 (hc : cRep S σ) (hm : mRep S σ) (hO : sOK N S) (hN : N < 1000) (h4 : i + 4 ≤ X.2) (h256 : X.2 ≤ 256) : ∃ S' σ', am_w X 10 0 187 [some (.double u), some (.ref (0 : Nat)), some (.ref (66 : Nat)), some (.int (nI i))] [] σ = am_w X 10 0 958 [some (.double u), some (.ref (0 : Nat)), some (.ref (66 : Nat)), some (.int (nI i))] [] σ' ∧ cRep S' σ' ∧ mRep S' σ' ∧ sOK (N + 1) S' := by
  obtain ⟨σ1, e1, r1, p1⟩ := c87 (X := X) (d := 8) hc
  have e1 : am_v X 10 87 _ _ = _ := e1
  have hm1 := hm.pi p1
  obtain ⟨σ2, e2, r2, p2⟩ := c131 (X := X) (d := 9) hm1
  have e2 : am_v X 10 131 _ _ = _ := e2
  refine ⟨(oBla S).2, σ2, ?_, r1.pi p2, r2, oBla_ok hO⟩
  simp only [s0_187, s0_188, s0_191, s0_192, s0_195, s0_198, am_pu_s, am_pu_n, va_rf_s, va_rf_n, Option.bind_some, true_or, or_true, eq_self, if_true, if_false, ite_self, ite_true, ite_false, ↓reduceIte, reduceCtorEq, Nat.reduceEqDiff, Nat.reduceAdd, Nat.reduceLT, Nat.reduceLeDiff, Nat.reduceMul, Nat.reduceSub, not_true_eq_false, not_false_eq_true, and_self, and_true, true_and, and_false, false_and, nI_add, kd0 hc.1, kd66 hm1.1, e1, e2]
theorem lx_2 (hc : cRep S σ) (hm : mRep S σ) (hO : sOK N S) (hN : N < 1000) (h4 : i + 4 ≤ X.2) (h256 : X.2 ≤ 256) : ∃ S' σ', am_w X 10 0 200 [some (.double u), some (.ref (0 : Nat)), some (.ref (66 : Nat)), some (.int (nI i))] [] σ = am_w X 10 0 958 [some (.double u), some (.ref (0 : Nat)), some (.ref (66 : Nat)), some (.int (nI i))] [] σ' ∧ cRep S' σ' ∧ mRep S' σ' ∧ sOK (N + 1) S' := by
  have e1 := c88 (X := X) (d := 6) hc hO
  have e1 : am_v X 10 88 _ _ = _ := e1
  have hm1 := hm
  have hc1 := hc
  obtain ⟨σ2, e2, p2⟩ := c135 (X := X) (d := 6) hm1 hO
  have e2 : am_v X 10 135 _ _ = _ := e2
  refine ⟨S, σ2, ?_, hc1.piA p2.i, hm1.piA p2.i, sOK_up hO⟩
  simp only [s0_200, s0_201, s0_204, s0_205, s0_208, s0_211, am_pu_s, am_pu_n, va_rf_s, va_rf_n, Option.bind_some, true_or, or_true, eq_self, if_true, if_false, ite_self, ite_true, ite_false, ↓reduceIte, reduceCtorEq, Nat.reduceEqDiff, Nat.reduceAdd, Nat.reduceLT, Nat.reduceLeDiff, Nat.reduceMul, Nat.reduceSub, not_true_eq_false, not_false_eq_true, and_self, and_true, true_and, and_false, false_and, nI_add, kd0 hc.1, kd66 hm1.1, e1, e2]
theorem lx_3 (hc : cRep S σ) (hm : mRep S σ) (hO : sOK N S) (hN : N < 1000) (h4 : i + 4 ≤ X.2) (h256 : X.2 ≤ 256) : ∃ S' σ', am_w X 10 0 213 [some (.double u), some (.ref (0 : Nat)), some (.ref (66 : Nat)), some (.int (nI i))] [] σ = am_w X 10 0 958 [some (.double u), some (.ref (0 : Nat)), some (.ref (66 : Nat)), some (.int (nI i))] [] σ' ∧ cRep S' σ' ∧ mRep S' σ' ∧ sOK (N + 1) S' := by
  obtain ⟨σ1, e1, p1⟩ := c89 (X := X) (d := 2) hc hO
  have e1 : am_v X 10 89 _ _ = _ := e1
  have hm1 := hm.piA p1.i
  have hc1 := hc.piA p1.i
  obtain ⟨σ2, e2, p2⟩ := c147 (X := X) (d := 2) hm1 hO
  have e2 : am_v X 10 147 _ _ = _ := e2
  refine ⟨S, σ2, ?_, hc1.piA p2.i, hm1.piA p2.i, sOK_up hO⟩
  simp only [s0_213, s0_214, s0_217, s0_218, s0_221, s0_224, am_pu_s, am_pu_n, va_rf_s, va_rf_n, Option.bind_some, true_or, or_true, eq_self, if_true, if_false, ite_self, ite_true, ite_false, ↓reduceIte, reduceCtorEq, Nat.reduceEqDiff, Nat.reduceAdd, Nat.reduceLT, Nat.reduceLeDiff, Nat.reduceMul, Nat.reduceSub, not_true_eq_false, not_false_eq_true, and_self, and_true, true_and, and_false, false_and, nI_add, kd0 hc.1, kd66 hm1.1, e1, e2]
theorem lx_4 (hc : cRep S σ) (hm : mRep S σ) (hO : sOK N S) (hN : N < 1000) (h4 : i + 4 ≤ X.2) (h256 : X.2 ≤ 256) : ∃ S' σ', am_w X 10 0 226 [some (.double u), some (.ref (0 : Nat)), some (.ref (66 : Nat)), some (.int (nI i))] [] σ = am_w X 10 0 958 [some (.double u), some (.ref (0 : Nat)), some (.ref (66 : Nat)), some (.int (nI i))] [] σ' ∧ cRep S' σ' ∧ mRep S' σ' ∧ sOK (N + 1) S' := by
  obtain ⟨σ1, e1, r1, p1⟩ := c90 (X := X) (d := 5) hc hO
  have e1 : am_v X 10 90 _ _ = _ := e1
  have hm1 := hm.pi p1
  obtain ⟨σ2, e2, r2, p2⟩ := c148 (X := X) (d := 6) hm1 hO
  have e2 : am_v X 10 148 _ _ = _ := e2
  refine ⟨(oRoa S).2, σ2, ?_, r1.pi p2, r2, oRoa_ok hO⟩
  simp only [s0_226, s0_227, s0_230, s0_231, s0_234, s0_237, am_pu_s, am_pu_n, va_rf_s, va_rf_n, Option.bind_some, true_or, or_true, eq_self, if_true, if_false, ite_self, ite_true, ite_false, ↓reduceIte, reduceCtorEq, Nat.reduceEqDiff, Nat.reduceAdd, Nat.reduceLT, Nat.reduceLeDiff, Nat.reduceMul, Nat.reduceSub, not_true_eq_false, not_false_eq_true, and_self, and_true, true_and, and_false, false_and, nI_add, kd0 hc.1, kd66 hm1.1, e1, e2]
theorem lx_5 (hc : cRep S σ) (hm : mRep S σ) (hO : sOK N S) (hN : N < 1000) (h4 : i + 4 ≤ X.2) (h256 : X.2 ≤ 256) : ∃ S' σ', am_w X 10 0 239 [some (.double u), some (.ref (0 : Nat)), some (.ref (66 : Nat)), some (.int (nI i))] [] σ = am_w X 10 0 958 [some (.double u), some (.ref (0 : Nat)), some (.ref (66 : Nat)), some (.int (nI i))] [] σ' ∧ cRep S' σ' ∧ mRep S' σ' ∧ sOK (N + 1) S' := by
  have hx1 := lx_ix (X := X) (i := i) (k := 1) h4 (by decide) h256
  have cx1 := lx_cl (X := X) (i := i) (k := 1) h4 (by decide) h256
  obtain ⟨σ1, e1, r1, p1⟩ := c91 (X := X) (d := 2) (v := (X.1 (i + 1))) hc hO
  have e1 : am_v X 10 91 _ _ = _ := e1
  have hm1 := hm.pi p1
  obtain ⟨σ2, e2, r2, p2⟩ := c150 (X := X) (d := 2) (v := (X.1 (i + 1))) hm1 hO
  have e2 : am_v X 10 150 _ _ = _ := e2
  refine ⟨(oWri S (X.1 (i + 1))).2, σ2, ?_, r1.pi p2, r2, oWri_ok hO⟩
  simp only [s0_239, s0_240, s0_241, s0_242, s0_243, s0_244 (i := nI (i + 1)) hx1, s0_245, s0_248, s0_249, s0_250, s0_251, s0_252, s0_253 (i := nI (i + 1)) hx1, s0_254, s0_257, s0_260, am_pu_s, am_pu_n, va_rf_s, va_rf_n, Option.bind_some, true_or, or_true, eq_self, if_true, if_false, ite_self, ite_true, ite_false, ↓reduceIte, reduceCtorEq, Nat.reduceEqDiff, Nat.reduceAdd, Nat.reduceLT, Nat.reduceLeDiff, Nat.reduceMul, Nat.reduceSub, not_true_eq_false, not_false_eq_true, and_self, and_true, true_and, and_false, false_and, nI_add, cx1, kd0 hc.1, kd66 hm1.1, e1, e2]
theorem lx_6 (hc : cRep S σ) (hm : mRep S σ) (hO : sOK N S) (hN : N < 1000) (h4 : i + 4 ≤ X.2) (h256 : X.2 ≤ 256) : ∃ S' σ', am_w X 10 0 262 [some (.double u), some (.ref (0 : Nat)), some (.ref (66 : Nat)), some (.int (nI i))] [] σ = am_w X 10 0 958 [some (.double u), some (.ref (0 : Nat)), some (.ref (66 : Nat)), some (.int (nI i))] [] σ' ∧ cRep S' σ' ∧ mRep S' σ' ∧ sOK (N + 1) S' := by
  have hx1 := lx_ix (X := X) (i := i) (k := 1) h4 (by decide) h256
  have cx1 := lx_cl (X := X) (i := i) (k := 1) h4 (by decide) h256
  obtain ⟨σ1, e1, r1, p1⟩ := c92 (X := X) (d := 7) (v := (X.1 (i + 1))) hc hO
  have e1 : am_v X 10 92 _ _ = _ := e1
  have hm1 := hm.pi p1
  obtain ⟨σ2, e2, r2, p2⟩ := c151 (X := X) (d := 8) (v := (X.1 (i + 1))) hm1 hO
  have e2 : am_v X 10 151 _ _ = _ := e2
  refine ⟨(oBur S (X.1 (i + 1))).2, σ2, ?_, r1.pi p2, r2, oBur_ok hO⟩
  simp only [s0_262, s0_263, s0_264, s0_265, s0_266, s0_267 (i := nI (i + 1)) hx1, s0_268, s0_271, s0_272, s0_273, s0_274, s0_275, s0_276 (i := nI (i + 1)) hx1, s0_277, s0_280, s0_283, am_pu_s, am_pu_n, va_rf_s, va_rf_n, Option.bind_some, true_or, or_true, eq_self, if_true, if_false, ite_self, ite_true, ite_false, ↓reduceIte, reduceCtorEq, Nat.reduceEqDiff, Nat.reduceAdd, Nat.reduceLT, Nat.reduceLeDiff, Nat.reduceMul, Nat.reduceSub, not_true_eq_false, not_false_eq_true, and_self, and_true, true_and, and_false, false_and, nI_add, cx1, kd0 hc.1, kd66 hm1.1, e1, e2]
theorem lx_7 (hc : cRep S σ) (hm : mRep S σ) (hO : sOK N S) (hN : N < 1000) (h4 : i + 4 ≤ X.2) (h256 : X.2 ≤ 256) : ∃ S' σ', am_w X 10 0 285 [some (.double u), some (.ref (0 : Nat)), some (.ref (66 : Nat)), some (.int (nI i))] [] σ = am_w X 10 0 958 [some (.double u), some (.ref (0 : Nat)), some (.ref (66 : Nat)), some (.int (nI i))] [] σ' ∧ cRep S' σ' ∧ mRep S' σ' ∧ sOK (N + 1) S' := by
  have hx1 := lx_ix (X := X) (i := i) (k := 1) h4 (by decide) h256
  have cx1 := lx_cl (X := X) (i := i) (k := 1) h4 (by decide) h256
  have hx2 := lx_ix (X := X) (i := i) (k := 2) h4 (by decide) h256
  have cx2 := lx_cl (X := X) (i := i) (k := 2) h4 (by decide) h256
  obtain ⟨σ1, e1, p1⟩ := c93 (X := X) (d := 3) (v := (X.1 (i + 1))) (w := (X.1 (i + 2))) hc hO
  have e1 : am_v X 10 93 _ _ = _ := e1
  have hm1 := hm.piA p1.i
  have hc1 := hc.piA p1.i
  obtain ⟨σ2, e2, p2⟩ := c163 (X := X) (d := 2) (v := (X.1 (i + 1))) (w := (X.1 (i + 2))) hm1 hO
  have e2 : am_v X 10 163 _ _ = _ := e2
  refine ⟨S, σ2, ?_, hc1.piA p2.i, hm1.piA p2.i, sOK_up hO⟩
  simp only [s0_285, s0_286, s0_287, s0_288, s0_289, s0_290 (i := nI (i + 1)) hx1, s0_291, s0_292, s0_293, s0_294, s0_295 (i := nI (i + 2)) hx2, s0_296, s0_299, s0_300, s0_301, s0_302, s0_303, s0_304 (i := nI (i + 1)) hx1, s0_305, s0_306, s0_307, s0_308, s0_309 (i := nI (i + 2)) hx2, s0_310, s0_313, s0_316, am_pu_s, am_pu_n, va_rf_s, va_rf_n, Option.bind_some, true_or, or_true, eq_self, if_true, if_false, ite_self, ite_true, ite_false, ↓reduceIte, reduceCtorEq, Nat.reduceEqDiff, Nat.reduceAdd, Nat.reduceLT, Nat.reduceLeDiff, Nat.reduceMul, Nat.reduceSub, not_true_eq_false, not_false_eq_true, and_self, and_true, true_and, and_false, false_and, nI_add, cx1, cx2, kd0 hc.1, kd66 hm1.1, e1, e2]
theorem lx_8 (hc : cRep S σ) (hm : mRep S σ) (hO : sOK N S) (hN : N < 1000) (h4 : i + 4 ≤ X.2) (h256 : X.2 ≤ 256) : ∃ S' σ', am_w X 10 0 318 [some (.double u), some (.ref (0 : Nat)), some (.ref (66 : Nat)), some (.int (nI i))] [] σ = am_w X 10 0 958 [some (.double u), some (.ref (0 : Nat)), some (.ref (66 : Nat)), some (.int (nI i))] [] σ' ∧ cRep S' σ' ∧ mRep S' σ' ∧ sOK (N + 1) S' := by
  have hx1 := lx_ix (X := X) (i := i) (k := 1) h4 (by decide) h256
  have cx1 := lx_cl (X := X) (i := i) (k := 1) h4 (by decide) h256
  have hx2 := lx_ix (X := X) (i := i) (k := 2) h4 (by decide) h256
  have cx2 := lx_cl (X := X) (i := i) (k := 2) h4 (by decide) h256
  have e1 := c94 (X := X) (d := 8) (v := (X.1 (i + 1))) (w := (X.1 (i + 2))) hc hO
  have e1 : am_v X 10 94 _ _ = _ := e1
  have hm1 := hm
  have hc1 := hc
  have e2 := c164 (X := X) (d := 7) (v := (X.1 (i + 1))) (w := (X.1 (i + 2))) hm1 hO
  have e2 : am_v X 10 164 _ _ = _ := e2
  refine ⟨S, σ, ?_, hc1, hm1, sOK_up hO⟩
  simp only [s0_318, s0_319, s0_320, s0_321, s0_322, s0_323 (i := nI (i + 1)) hx1, s0_324, s0_325, s0_326, s0_327, s0_328 (i := nI (i + 2)) hx2, s0_329, s0_332, s0_333, s0_334, s0_335, s0_336, s0_337 (i := nI (i + 1)) hx1, s0_338, s0_339, s0_340, s0_341, s0_342 (i := nI (i + 2)) hx2, s0_343, s0_346, s0_349, am_pu_s, am_pu_n, va_rf_s, va_rf_n, Option.bind_some, true_or, or_true, eq_self, if_true, if_false, ite_self, ite_true, ite_false, ↓reduceIte, reduceCtorEq, Nat.reduceEqDiff, Nat.reduceAdd, Nat.reduceLT, Nat.reduceLeDiff, Nat.reduceMul, Nat.reduceSub, not_true_eq_false, not_false_eq_true, and_self, and_true, true_and, and_false, false_and, nI_add, cx1, cx2, kd0 hc.1, kd66 hm1.1, e1, e2]
theorem lx_9 (hc : cRep S σ) (hm : mRep S σ) (hO : sOK N S) (hN : N < 1000) (h4 : i + 4 ≤ X.2) (h256 : X.2 ≤ 256) : ∃ S' σ', am_w X 10 0 351 [some (.double u), some (.ref (0 : Nat)), some (.ref (66 : Nat)), some (.int (nI i))] [] σ = am_w X 10 0 958 [some (.double u), some (.ref (0 : Nat)), some (.ref (66 : Nat)), some (.int (nI i))] [] σ' ∧ cRep S' σ' ∧ mRep S' σ' ∧ sOK (N + 1) S' := by
  have hx1 := lx_ix (X := X) (i := i) (k := 1) h4 (by decide) h256
  have cx1 := lx_cl (X := X) (i := i) (k := 1) h4 (by decide) h256
  have hx2 := lx_ix (X := X) (i := i) (k := 2) h4 (by decide) h256
  have cx2 := lx_cl (X := X) (i := i) (k := 2) h4 (by decide) h256
  obtain ⟨σ1, e1, p1⟩ := c95 (X := X) (d := 7) (v := (X.1 (i + 1))) (w := (X.1 (i + 2))) hc hO
  have e1 : am_v X 10 95 _ _ = _ := e1
  have hm1 := hm.piA p1.i
  have hc1 := hc.piA p1.i
  obtain ⟨σ2, e2, p2⟩ := c166 (X := X) (d := 7) (v := (X.1 (i + 1))) (w := (X.1 (i + 2))) hm1 hO
  have e2 : am_v X 10 166 _ _ = _ := e2
  refine ⟨S, σ2, ?_, hc1.piA p2.i, hm1.piA p2.i, sOK_up hO⟩
  simp only [s0_351, s0_352, s0_353, s0_354, s0_355, s0_356 (i := nI (i + 1)) hx1, s0_357, s0_358, s0_359, s0_360, s0_361 (i := nI (i + 2)) hx2, s0_362, s0_365, s0_366, s0_367, s0_368, s0_369, s0_370 (i := nI (i + 1)) hx1, s0_371, s0_372, s0_373, s0_374, s0_375 (i := nI (i + 2)) hx2, s0_376, s0_379, s0_382, am_pu_s, am_pu_n, va_rf_s, va_rf_n, Option.bind_some, true_or, or_true, eq_self, if_true, if_false, ite_self, ite_true, ite_false, ↓reduceIte, reduceCtorEq, Nat.reduceEqDiff, Nat.reduceAdd, Nat.reduceLT, Nat.reduceLeDiff, Nat.reduceMul, Nat.reduceSub, not_true_eq_false, not_false_eq_true, and_self, and_true, true_and, and_false, false_and, nI_add, cx1, cx2, kd0 hc.1, kd66 hm1.1, e1, e2]
theorem lx_10 (hc : cRep S σ) (hm : mRep S σ) (hO : sOK N S) (hN : N < 1000) (h4 : i + 4 ≤ X.2) (h256 : X.2 ≤ 256) : ∃ S' σ', am_w X 10 0 384 [some (.double u), some (.ref (0 : Nat)), some (.ref (66 : Nat)), some (.int (nI i))] [] σ = am_w X 10 0 958 [some (.double u), some (.ref (0 : Nat)), some (.ref (66 : Nat)), some (.int (nI i))] [] σ' ∧ cRep S' σ' ∧ mRep S' σ' ∧ sOK (N + 1) S' := by
  have hx1 := lx_ix (X := X) (i := i) (k := 1) h4 (by decide) h256
  have cx1 := lx_cl (X := X) (i := i) (k := 1) h4 (by decide) h256
  have hx2 := lx_ix (X := X) (i := i) (k := 2) h4 (by decide) h256
  have cx2 := lx_cl (X := X) (i := i) (k := 2) h4 (by decide) h256
  have hx3 := lx_ix (X := X) (i := i) (k := 3) h4 (by decide) h256
  have cx3 := lx_cl (X := X) (i := i) (k := 3) h4 (by decide) h256
  obtain ⟨r, σ1, e1, p1, q1⟩ := c96 (X := X) (d := 7) (v := (X.1 (i + 1))) (w := (X.1 (i + 2))) (x := (X.1 (i + 3))) hc hO
  have e1 : am_v X 10 96 _ _ = _ := e1
  have hm1 := hm.piA p1.i
  obtain ⟨r', e2, q2⟩ := c169 (X := X) (d := 6) (v := (X.1 (i + 1))) (w := (X.1 (i + 2))) (x := (X.1 (i + 3))) hm1 hO
  have e2 : am_v X 10 169 _ _ = _ := e2
  obtain rfl := isAl_u q1 q2
  refine ⟨S, σ1, ?_, hc.piA p1.i, hm1, sOK_up hO⟩
  simp only [s0_384, s0_385, s0_386, s0_387, s0_388, s0_389 (i := nI (i + 1)) hx1, s0_390, s0_391, s0_392, s0_393, s0_394 (i := nI (i + 2)) hx2, s0_395, s0_396, s0_397, s0_398, s0_399 (i := nI (i + 3)) hx3, s0_400, s0_403, s0_404, s0_405, s0_406, s0_407, s0_408 (i := nI (i + 1)) hx1, s0_409, s0_410, s0_411, s0_412, s0_413 (i := nI (i + 2)) hx2, s0_414, s0_415, s0_416, s0_417, s0_418 (i := nI (i + 3)) hx3, s0_419, s0_422, s0_425, am_pu_s, am_pu_n, va_rf_s, va_rf_n, Option.bind_some, true_or, or_true, eq_self, if_true, if_false, ite_self, ite_true, ite_false, ↓reduceIte, reduceCtorEq, Nat.reduceEqDiff, Nat.reduceAdd, Nat.reduceLT, Nat.reduceLeDiff, Nat.reduceMul, Nat.reduceSub, not_true_eq_false, not_false_eq_true, and_self, and_true, true_and, and_false, false_and, nI_add, cx1, cx2, cx3, kd0 hc.1, kd66 hm1.1, e1, e2]
theorem lx_11 (hc : cRep S σ) (hm : mRep S σ) (hO : sOK N S) (hN : N < 1000) (h4 : i + 4 ≤ X.2) (h256 : X.2 ≤ 256) : ∃ S' σ', am_w X 10 0 427 [some (.double u), some (.ref (0 : Nat)), some (.ref (66 : Nat)), some (.int (nI i))] [] σ = am_w X 10 0 958 [some (.double u), some (.ref (0 : Nat)), some (.ref (66 : Nat)), some (.int (nI i))] [] σ' ∧ cRep S' σ' ∧ mRep S' σ' ∧ sOK (N + 1) S' := by
  have hx1 := lx_ix (X := X) (i := i) (k := 1) h4 (by decide) h256
  have cx1 := lx_cl (X := X) (i := i) (k := 1) h4 (by decide) h256
  have hx2 := lx_ix (X := X) (i := i) (k := 2) h4 (by decide) h256
  have cx2 := lx_cl (X := X) (i := i) (k := 2) h4 (by decide) h256
  have e1 := c97 (X := X) (d := 6) (v := (X.1 (i + 1))) (w := (X.1 (i + 2))) hc hO
  have e1 : am_v X 10 97 _ _ = _ := e1
  have hm1 := hm
  have hc1 := hc
  have e2 := c171 (X := X) (d := 6) (v := (X.1 (i + 1))) (w := (X.1 (i + 2))) hm1 hO
  have e2 : am_v X 10 171 _ _ = _ := e2
  refine ⟨S, σ, ?_, hc1, hm1, sOK_up hO⟩
  simp only [s0_427, s0_428, s0_429, s0_430, s0_431, s0_432 (i := nI (i + 1)) hx1, s0_433, s0_434, s0_435, s0_436, s0_437 (i := nI (i + 2)) hx2, s0_438, s0_441, s0_442, s0_443, s0_444, s0_445, s0_446 (i := nI (i + 1)) hx1, s0_447, s0_448, s0_449, s0_450, s0_451 (i := nI (i + 2)) hx2, s0_452, s0_455, s0_458, am_pu_s, am_pu_n, va_rf_s, va_rf_n, Option.bind_some, true_or, or_true, eq_self, if_true, if_false, ite_self, ite_true, ite_false, ↓reduceIte, reduceCtorEq, Nat.reduceEqDiff, Nat.reduceAdd, Nat.reduceLT, Nat.reduceLeDiff, Nat.reduceMul, Nat.reduceSub, not_true_eq_false, not_false_eq_true, and_self, and_true, true_and, and_false, false_and, nI_add, cx1, cx2, kd0 hc.1, kd66 hm1.1, e1, e2]
theorem lx_12 (hc : cRep S σ) (hm : mRep S σ) (hO : sOK N S) (hN : N < 1000) (h4 : i + 4 ≤ X.2) (h256 : X.2 ≤ 256) : ∃ S' σ', am_w X 10 0 460 [some (.double u), some (.ref (0 : Nat)), some (.ref (66 : Nat)), some (.int (nI i))] [] σ = am_w X 10 0 958 [some (.double u), some (.ref (0 : Nat)), some (.ref (66 : Nat)), some (.int (nI i))] [] σ' ∧ cRep S' σ' ∧ mRep S' σ' ∧ sOK (N + 1) S' := by
  have hx1 := lx_ix (X := X) (i := i) (k := 1) h4 (by decide) h256
  have cx1 := lx_cl (X := X) (i := i) (k := 1) h4 (by decide) h256
  have hx2 := lx_ix (X := X) (i := i) (k := 2) h4 (by decide) h256
  have cx2 := lx_cl (X := X) (i := i) (k := 2) h4 (by decide) h256
  obtain ⟨σ1, e1, p1⟩ := c98 (X := X) (d := 3) (v := (X.1 (i + 1))) (w := (X.1 (i + 2))) hc hO
  have e1 : am_v X 10 98 _ _ = _ := e1
  have hm1 := hm.piA p1.i
  have hc1 := hc.piA p1.i
  obtain ⟨σ2, e2, p2⟩ := c178 (X := X) (d := 1) (v := (X.1 (i + 1))) (w := (X.1 (i + 2))) hm1 hO
  have e2 : am_v X 10 178 _ _ = _ := e2
  refine ⟨S, σ2, ?_, hc1.piA p2.i, hm1.piA p2.i, sOK_up hO⟩
  simp only [s0_460, s0_461, s0_462, s0_463, s0_464, s0_465 (i := nI (i + 1)) hx1, s0_466, s0_467, s0_468, s0_469, s0_470 (i := nI (i + 2)) hx2, s0_471, s0_474, s0_475, s0_476, s0_477, s0_478, s0_479 (i := nI (i + 1)) hx1, s0_480, s0_481, s0_482, s0_483, s0_484 (i := nI (i + 2)) hx2, s0_485, s0_488, s0_491, am_pu_s, am_pu_n, va_rf_s, va_rf_n, Option.bind_some, true_or, or_true, eq_self, if_true, if_false, ite_self, ite_true, ite_false, ↓reduceIte, reduceCtorEq, Nat.reduceEqDiff, Nat.reduceAdd, Nat.reduceLT, Nat.reduceLeDiff, Nat.reduceMul, Nat.reduceSub, not_true_eq_false, not_false_eq_true, and_self, and_true, true_and, and_false, false_and, nI_add, cx1, cx2, kd0 hc.1, kd66 hm1.1, e1, e2]
theorem lx_13 (hc : cRep S σ) (hm : mRep S σ) (hO : sOK N S) (hN : N < 1000) (h4 : i + 4 ≤ X.2) (h256 : X.2 ≤ 256) : ∃ S' σ', am_w X 10 0 493 [some (.double u), some (.ref (0 : Nat)), some (.ref (66 : Nat)), some (.int (nI i))] [] σ = am_w X 10 0 958 [some (.double u), some (.ref (0 : Nat)), some (.ref (66 : Nat)), some (.int (nI i))] [] σ' ∧ cRep S' σ' ∧ mRep S' σ' ∧ sOK (N + 1) S' := by
  have hx1 := lx_ix (X := X) (i := i) (k := 1) h4 (by decide) h256
  have cx1 := lx_cl (X := X) (i := i) (k := 1) h4 (by decide) h256
  have hx2 := lx_ix (X := X) (i := i) (k := 2) h4 (by decide) h256
  have cx2 := lx_cl (X := X) (i := i) (k := 2) h4 (by decide) h256
  have e1 := c99 (X := X) (d := 8) (v := (X.1 (i + 1))) (w := (X.1 (i + 2))) hc hO
  have e1 : am_v X 10 99 _ _ = _ := e1
  have hm1 := hm
  have hc1 := hc
  have e2 := c179 (X := X) (d := 7) (v := (X.1 (i + 1))) (w := (X.1 (i + 2))) hm1 hO
  have e2 : am_v X 10 179 _ _ = _ := e2
  refine ⟨S, σ, ?_, hc1, hm1, sOK_up hO⟩
  simp only [s0_493, s0_494, s0_495, s0_496, s0_497, s0_498 (i := nI (i + 1)) hx1, s0_499, s0_500, s0_501, s0_502, s0_503 (i := nI (i + 2)) hx2, s0_504, s0_507, s0_508, s0_509, s0_510, s0_511, s0_512 (i := nI (i + 1)) hx1, s0_513, s0_514, s0_515, s0_516, s0_517 (i := nI (i + 2)) hx2, s0_518, s0_521, s0_524, am_pu_s, am_pu_n, va_rf_s, va_rf_n, Option.bind_some, true_or, or_true, eq_self, if_true, if_false, ite_self, ite_true, ite_false, ↓reduceIte, reduceCtorEq, Nat.reduceEqDiff, Nat.reduceAdd, Nat.reduceLT, Nat.reduceLeDiff, Nat.reduceMul, Nat.reduceSub, not_true_eq_false, not_false_eq_true, and_self, and_true, true_and, and_false, false_and, nI_add, cx1, cx2, kd0 hc.1, kd66 hm1.1, e1, e2]
theorem lx_14 (hc : cRep S σ) (hm : mRep S σ) (hO : sOK N S) (hN : N < 1000) (h4 : i + 4 ≤ X.2) (h256 : X.2 ≤ 256) : ∃ S' σ', am_w X 10 0 526 [some (.double u), some (.ref (0 : Nat)), some (.ref (66 : Nat)), some (.int (nI i))] [] σ = am_w X 10 0 958 [some (.double u), some (.ref (0 : Nat)), some (.ref (66 : Nat)), some (.int (nI i))] [] σ' ∧ cRep S' σ' ∧ mRep S' σ' ∧ sOK (N + 1) S' := by
  have hx1 := lx_ix (X := X) (i := i) (k := 1) h4 (by decide) h256
  have cx1 := lx_cl (X := X) (i := i) (k := 1) h4 (by decide) h256
  have hx2 := lx_ix (X := X) (i := i) (k := 2) h4 (by decide) h256
  have cx2 := lx_cl (X := X) (i := i) (k := 2) h4 (by decide) h256
  obtain ⟨σ1, e1, p1⟩ := c100 (X := X) (d := 4) (v := (X.1 (i + 1))) (w := (X.1 (i + 2))) hc hO
  have e1 : am_v X 10 100 _ _ = _ := e1
  have hm1 := hm.piA p1.i
  have hc1 := hc.piA p1.i
  obtain ⟨σ2, e2, p2⟩ := c180 (X := X) (d := 3) (v := (X.1 (i + 1))) (w := (X.1 (i + 2))) hm1 hO
  have e2 : am_v X 10 180 _ _ = _ := e2
  refine ⟨S, σ2, ?_, hc1.piA p2.i, hm1.piA p2.i, sOK_up hO⟩
  simp only [s0_526, s0_527, s0_528, s0_529, s0_530, s0_531 (i := nI (i + 1)) hx1, s0_532, s0_533, s0_534, s0_535, s0_536 (i := nI (i + 2)) hx2, s0_537, s0_540, s0_541, s0_542, s0_543, s0_544, s0_545 (i := nI (i + 1)) hx1, s0_546, s0_547, s0_548, s0_549, s0_550 (i := nI (i + 2)) hx2, s0_551, s0_554, s0_557, am_pu_s, am_pu_n, va_rf_s, va_rf_n, Option.bind_some, true_or, or_true, eq_self, if_true, if_false, ite_self, ite_true, ite_false, ↓reduceIte, reduceCtorEq, Nat.reduceEqDiff, Nat.reduceAdd, Nat.reduceLT, Nat.reduceLeDiff, Nat.reduceMul, Nat.reduceSub, not_true_eq_false, not_false_eq_true, and_self, and_true, true_and, and_false, false_and, nI_add, cx1, cx2, kd0 hc.1, kd66 hm1.1, e1, e2]
theorem lx_15 (hc : cRep S σ) (hm : mRep S σ) (hO : sOK N S) (hN : N < 1000) (h4 : i + 4 ≤ X.2) (h256 : X.2 ≤ 256) : ∃ S' σ', am_w X 10 0 559 [some (.double u), some (.ref (0 : Nat)), some (.ref (66 : Nat)), some (.int (nI i))] [] σ = am_w X 10 0 958 [some (.double u), some (.ref (0 : Nat)), some (.ref (66 : Nat)), some (.int (nI i))] [] σ' ∧ cRep S' σ' ∧ mRep S' σ' ∧ sOK (N + 1) S' := by
  have hx1 := lx_ix (X := X) (i := i) (k := 1) h4 (by decide) h256
  have cx1 := lx_cl (X := X) (i := i) (k := 1) h4 (by decide) h256
  have hx2 := lx_ix (X := X) (i := i) (k := 2) h4 (by decide) h256
  have cx2 := lx_cl (X := X) (i := i) (k := 2) h4 (by decide) h256
  have e1 := c101 (X := X) (d := 8) (v := (X.1 (i + 1))) (w := (X.1 (i + 2))) hc hO
  have e1 : am_v X 10 101 _ _ = _ := e1
  have hm1 := hm
  have hc1 := hc
  have e2 := c181 (X := X) (d := 7) (v := (X.1 (i + 1))) (w := (X.1 (i + 2))) hm1 hO
  have e2 : am_v X 10 181 _ _ = _ := e2
  refine ⟨S, σ, ?_, hc1, hm1, sOK_up hO⟩
  simp only [s0_559, s0_560, s0_561, s0_562, s0_563, s0_564 (i := nI (i + 1)) hx1, s0_565, s0_566, s0_567, s0_568, s0_569 (i := nI (i + 2)) hx2, s0_570, s0_573, s0_574, s0_575, s0_576, s0_577, s0_578 (i := nI (i + 1)) hx1, s0_579, s0_580, s0_581, s0_582, s0_583 (i := nI (i + 2)) hx2, s0_584, s0_587, s0_590, am_pu_s, am_pu_n, va_rf_s, va_rf_n, Option.bind_some, true_or, or_true, eq_self, if_true, if_false, ite_self, ite_true, ite_false, ↓reduceIte, reduceCtorEq, Nat.reduceEqDiff, Nat.reduceAdd, Nat.reduceLT, Nat.reduceLeDiff, Nat.reduceMul, Nat.reduceSub, not_true_eq_false, not_false_eq_true, and_self, and_true, true_and, and_false, false_and, nI_add, cx1, cx2, kd0 hc.1, kd66 hm1.1, e1, e2]
theorem lx_16 (hc : cRep S σ) (hm : mRep S σ) (hO : sOK N S) (hN : N < 1000) (h4 : i + 4 ≤ X.2) (h256 : X.2 ≤ 256) : ∃ S' σ', am_w X 10 0 592 [some (.double u), some (.ref (0 : Nat)), some (.ref (66 : Nat)), some (.int (nI i))] [] σ = am_w X 10 0 958 [some (.double u), some (.ref (0 : Nat)), some (.ref (66 : Nat)), some (.int (nI i))] [] σ' ∧ cRep S' σ' ∧ mRep S' σ' ∧ sOK (N + 1) S' := by
  have hx1 := lx_ix (X := X) (i := i) (k := 1) h4 (by decide) h256
  have cx1 := lx_cl (X := X) (i := i) (k := 1) h4 (by decide) h256
  have hx2 := lx_ix (X := X) (i := i) (k := 2) h4 (by decide) h256
  have cx2 := lx_cl (X := X) (i := i) (k := 2) h4 (by decide) h256
  obtain ⟨σ1, e1, r1, p1⟩ := c102 (X := X) (d := 8) (v := (X.1 (i + 1))) (w := (X.1 (i + 2))) hc hO
  have e1 : am_v X 10 102 _ _ = _ := e1
  have hm1 := hm.pi p1
  obtain ⟨σ2, e2, r2, p2⟩ := c182 (X := X) (d := 7) (v := (X.1 (i + 1))) (w := (X.1 (i + 2))) hm1 hO
  have e2 : am_v X 10 182 _ _ = _ := e2
  refine ⟨(oWin S (X.1 (i + 1)) (X.1 (i + 2))).2, σ2, ?_, r1.pi p2, r2, oWin_ok hO⟩
  simp only [s0_592, s0_593, s0_594, s0_595, s0_596, s0_597 (i := nI (i + 1)) hx1, s0_598, s0_599, s0_600, s0_601, s0_602 (i := nI (i + 2)) hx2, s0_603, s0_606, s0_607, s0_608, s0_609, s0_610, s0_611 (i := nI (i + 1)) hx1, s0_612, s0_613, s0_614, s0_615, s0_616 (i := nI (i + 2)) hx2, s0_617, s0_620, s0_623, am_pu_s, am_pu_n, va_rf_s, va_rf_n, Option.bind_some, true_or, or_true, eq_self, if_true, if_false, ite_self, ite_true, ite_false, ↓reduceIte, reduceCtorEq, Nat.reduceEqDiff, Nat.reduceAdd, Nat.reduceLT, Nat.reduceLeDiff, Nat.reduceMul, Nat.reduceSub, not_true_eq_false, not_false_eq_true, and_self, and_true, true_and, and_false, false_and, nI_add, cx1, cx2, kd0 hc.1, kd66 hm1.1, e1, e2]
theorem lx_17 (hc : cRep S σ) (hm : mRep S σ) (hO : sOK N S) (hN : N < 1000) (h4 : i + 4 ≤ X.2) (h256 : X.2 ≤ 256) : ∃ S' σ', am_w X 10 0 625 [some (.double u), some (.ref (0 : Nat)), some (.ref (66 : Nat)), some (.int (nI i))] [] σ = am_w X 10 0 958 [some (.double u), some (.ref (0 : Nat)), some (.ref (66 : Nat)), some (.int (nI i))] [] σ' ∧ cRep S' σ' ∧ mRep S' σ' ∧ sOK (N + 1) S' := by
  have hx1 := lx_ix (X := X) (i := i) (k := 1) h4 (by decide) h256
  have cx1 := lx_cl (X := X) (i := i) (k := 1) h4 (by decide) h256
  have hx2 := lx_ix (X := X) (i := i) (k := 2) h4 (by decide) h256
  have cx2 := lx_cl (X := X) (i := i) (k := 2) h4 (by decide) h256
  obtain ⟨σ1, e1, r1, p1⟩ := c103 (X := X) (d := 8) (v := (X.1 (i + 1))) (w := (X.1 (i + 2))) hc hO
  have e1 : am_v X 10 103 _ _ = _ := e1
  have hm1 := hm.pi p1
  obtain ⟨σ2, e2, r2, p2⟩ := c183 (X := X) (d := 7) (v := (X.1 (i + 1))) (w := (X.1 (i + 2))) hm1 hO
  have e2 : am_v X 10 183 _ _ = _ := e2
  refine ⟨(oTol S (X.1 (i + 1)) (X.1 (i + 2))).2, σ2, ?_, r1.pi p2, r2, oTol_ok hO⟩
  simp only [s0_625, s0_626, s0_627, s0_628, s0_629, s0_630 (i := nI (i + 1)) hx1, s0_631, s0_632, s0_633, s0_634, s0_635 (i := nI (i + 2)) hx2, s0_636, s0_639, s0_640, s0_641, s0_642, s0_643, s0_644 (i := nI (i + 1)) hx1, s0_645, s0_646, s0_647, s0_648, s0_649 (i := nI (i + 2)) hx2, s0_650, s0_653, s0_656, am_pu_s, am_pu_n, va_rf_s, va_rf_n, Option.bind_some, true_or, or_true, eq_self, if_true, if_false, ite_self, ite_true, ite_false, ↓reduceIte, reduceCtorEq, Nat.reduceEqDiff, Nat.reduceAdd, Nat.reduceLT, Nat.reduceLeDiff, Nat.reduceMul, Nat.reduceSub, not_true_eq_false, not_false_eq_true, and_self, and_true, true_and, and_false, false_and, nI_add, cx1, cx2, kd0 hc.1, kd66 hm1.1, e1, e2]
theorem lx_18 (hc : cRep S σ) (hm : mRep S σ) (hO : sOK N S) (hN : N < 1000) (h4 : i + 4 ≤ X.2) (h256 : X.2 ≤ 256) : ∃ S' σ', am_w X 10 0 658 [some (.double u), some (.ref (0 : Nat)), some (.ref (66 : Nat)), some (.int (nI i))] [] σ = am_w X 10 0 958 [some (.double u), some (.ref (0 : Nat)), some (.ref (66 : Nat)), some (.int (nI i))] [] σ' ∧ cRep S' σ' ∧ mRep S' σ' ∧ sOK (N + 1) S' := by
  have hx1 := lx_ix (X := X) (i := i) (k := 1) h4 (by decide) h256
  have cx1 := lx_cl (X := X) (i := i) (k := 1) h4 (by decide) h256
  have hx2 := lx_ix (X := X) (i := i) (k := 2) h4 (by decide) h256
  have cx2 := lx_cl (X := X) (i := i) (k := 2) h4 (by decide) h256
  obtain ⟨σ1, e1, r1, p1⟩ := c104 (X := X) (d := 4) (v := (X.1 (i + 1))) (w := (X.1 (i + 2))) hc hO
  have e1 : am_v X 10 104 _ _ = _ := e1
  have hm1 := hm.pi p1
  obtain ⟨σ2, e2, r2, p2⟩ := c184 (X := X) (d := 3) (v := (X.1 (i + 1))) (w := (X.1 (i + 2))) hm1 hO
  have e2 : am_v X 10 184 _ _ = _ := e2
  refine ⟨(oGo S (X.1 (i + 1)) (X.1 (i + 2))).2, σ2, ?_, r1.pi p2, r2, oGo_ok hO⟩
  simp only [s0_658, s0_659, s0_660, s0_661, s0_662, s0_663 (i := nI (i + 1)) hx1, s0_664, s0_665, s0_666, s0_667, s0_668 (i := nI (i + 2)) hx2, s0_669, s0_672, s0_673, s0_674, s0_675, s0_676, s0_677 (i := nI (i + 1)) hx1, s0_678, s0_679, s0_680, s0_681, s0_682 (i := nI (i + 2)) hx2, s0_683, s0_686, s0_689, am_pu_s, am_pu_n, va_rf_s, va_rf_n, Option.bind_some, true_or, or_true, eq_self, if_true, if_false, ite_self, ite_true, ite_false, ↓reduceIte, reduceCtorEq, Nat.reduceEqDiff, Nat.reduceAdd, Nat.reduceLT, Nat.reduceLeDiff, Nat.reduceMul, Nat.reduceSub, not_true_eq_false, not_false_eq_true, and_self, and_true, true_and, and_false, false_and, nI_add, cx1, cx2, kd0 hc.1, kd66 hm1.1, e1, e2]
theorem lx_19 (hc : cRep S σ) (hm : mRep S σ) (hO : sOK N S) (hN : N < 1000) (h4 : i + 4 ≤ X.2) (h256 : X.2 ≤ 256) : ∃ S' σ', am_w X 10 0 691 [some (.double u), some (.ref (0 : Nat)), some (.ref (66 : Nat)), some (.int (nI i))] [] σ = am_w X 10 0 958 [some (.double u), some (.ref (0 : Nat)), some (.ref (66 : Nat)), some (.int (nI i))] [] σ' ∧ cRep S' σ' ∧ mRep S' σ' ∧ sOK (N + 1) S' := by
  have hx1 := lx_ix (X := X) (i := i) (k := 1) h4 (by decide) h256
  have cx1 := lx_cl (X := X) (i := i) (k := 1) h4 (by decide) h256
  have hx2 := lx_ix (X := X) (i := i) (k := 2) h4 (by decide) h256
  have cx2 := lx_cl (X := X) (i := i) (k := 2) h4 (by decide) h256
  obtain ⟨σ1, e1, p1⟩ := c105 (X := X) (d := 4) (v := (X.1 (i + 1))) (w := (X.1 (i + 2))) hc hO
  have e1 : am_v X 10 105 _ _ = _ := e1
  have hm1 := hm.piA p1.i
  have hc1 := hc.piA p1.i
  obtain ⟨σ2, e2, p2⟩ := c186 (X := X) (d := 3) (v := (X.1 (i + 1))) (w := (X.1 (i + 2))) hm1 hO
  have e2 : am_v X 10 186 _ _ = _ := e2
  refine ⟨S, σ2, ?_, hc1.piA p2.i, hm1.piA p2.i, sOK_up hO⟩
  simp only [s0_691, s0_692, s0_693, s0_694, s0_695, s0_696 (i := nI (i + 1)) hx1, s0_697, s0_698, s0_699, s0_700, s0_701 (i := nI (i + 2)) hx2, s0_702, s0_705, s0_706, s0_707, s0_708, s0_709, s0_710 (i := nI (i + 1)) hx1, s0_711, s0_712, s0_713, s0_714, s0_715 (i := nI (i + 2)) hx2, s0_716, s0_719, s0_722, am_pu_s, am_pu_n, va_rf_s, va_rf_n, Option.bind_some, true_or, or_true, eq_self, if_true, if_false, ite_self, ite_true, ite_false, ↓reduceIte, reduceCtorEq, Nat.reduceEqDiff, Nat.reduceAdd, Nat.reduceLT, Nat.reduceLeDiff, Nat.reduceMul, Nat.reduceSub, not_true_eq_false, not_false_eq_true, and_self, and_true, true_and, and_false, false_and, nI_add, cx1, cx2, kd0 hc.1, kd66 hm1.1, e1, e2]
theorem lx_20 (hc : cRep S σ) (hm : mRep S σ) (hO : sOK N S) (hN : N < 1000) (h4 : i + 4 ≤ X.2) (h256 : X.2 ≤ 256) : ∃ S' σ', am_w X 10 0 724 [some (.double u), some (.ref (0 : Nat)), some (.ref (66 : Nat)), some (.int (nI i))] [] σ = am_w X 10 0 958 [some (.double u), some (.ref (0 : Nat)), some (.ref (66 : Nat)), some (.int (nI i))] [] σ' ∧ cRep S' σ' ∧ mRep S' σ' ∧ sOK (N + 1) S' := by
  have hx1 := lx_ix (X := X) (i := i) (k := 1) h4 (by decide) h256
  have cx1 := lx_cl (X := X) (i := i) (k := 1) h4 (by decide) h256
  have hx2 := lx_ix (X := X) (i := i) (k := 2) h4 (by decide) h256
  have cx2 := lx_cl (X := X) (i := i) (k := 2) h4 (by decide) h256
  obtain ⟨σ1, e1, p1⟩ := c106 (X := X) (d := 3) (v := (X.1 (i + 1))) (w := (X.1 (i + 2))) hc hO
  have e1 : am_v X 10 106 _ _ = _ := e1
  have hm1 := hm.piA p1.i
  have hc1 := hc.piA p1.i
  obtain ⟨σ2, e2, p2⟩ := c188 (X := X) (d := 2) (v := (X.1 (i + 1))) (w := (X.1 (i + 2))) hm1 hO
  have e2 : am_v X 10 188 _ _ = _ := e2
  refine ⟨S, σ2, ?_, hc1.piA p2.i, hm1.piA p2.i, sOK_up hO⟩
  simp only [s0_724, s0_725, s0_726, s0_727, s0_728, s0_729 (i := nI (i + 1)) hx1, s0_730, s0_731, s0_732, s0_733, s0_734 (i := nI (i + 2)) hx2, s0_735, s0_738, s0_739, s0_740, s0_741, s0_742, s0_743 (i := nI (i + 1)) hx1, s0_744, s0_745, s0_746, s0_747, s0_748 (i := nI (i + 2)) hx2, s0_749, s0_752, s0_755, am_pu_s, am_pu_n, va_rf_s, va_rf_n, Option.bind_some, true_or, or_true, eq_self, if_true, if_false, ite_self, ite_true, ite_false, ↓reduceIte, reduceCtorEq, Nat.reduceEqDiff, Nat.reduceAdd, Nat.reduceLT, Nat.reduceLeDiff, Nat.reduceMul, Nat.reduceSub, not_true_eq_false, not_false_eq_true, and_self, and_true, true_and, and_false, false_and, nI_add, cx1, cx2, kd0 hc.1, kd66 hm1.1, e1, e2]
theorem lx_21 (hc : cRep S σ) (hm : mRep S σ) (hO : sOK N S) (hN : N < 1000) (h4 : i + 4 ≤ X.2) (h256 : X.2 ≤ 256) : ∃ S' σ', am_w X 10 0 757 [some (.double u), some (.ref (0 : Nat)), some (.ref (66 : Nat)), some (.int (nI i))] [] σ = am_w X 10 0 958 [some (.double u), some (.ref (0 : Nat)), some (.ref (66 : Nat)), some (.int (nI i))] [] σ' ∧ cRep S' σ' ∧ mRep S' σ' ∧ sOK (N + 1) S' := by
  have hx1 := lx_ix (X := X) (i := i) (k := 1) h4 (by decide) h256
  have cx1 := lx_cl (X := X) (i := i) (k := 1) h4 (by decide) h256
  obtain ⟨σ1, e1, p1⟩ := c107 (X := X) (d := 2) (v := (X.1 (i + 1))) hc hO
  have e1 : am_v X 10 107 _ _ = _ := e1
  have hm1 := hm.piB p1.i
  have hc1 := hc.piB p1.i
  obtain ⟨σ2, e2, p2⟩ := c193 (X := X) (d := 1) (v := (X.1 (i + 1))) hm1 hO
  have e2 : am_v X 10 193 _ _ = _ := e2
  refine ⟨S, σ2, ?_, hc1.piB p2.i, hm1.piB p2.i, sOK_up hO⟩
  simp only [s0_757, s0_758, s0_759, s0_760, s0_761, s0_762 (i := nI (i + 1)) hx1, s0_763, s0_766, s0_767, s0_768, s0_769, s0_770, s0_771 (i := nI (i + 1)) hx1, s0_772, s0_775, s0_778, am_pu_s, am_pu_n, va_rf_s, va_rf_n, Option.bind_some, true_or, or_true, eq_self, if_true, if_false, ite_self, ite_true, ite_false, ↓reduceIte, reduceCtorEq, Nat.reduceEqDiff, Nat.reduceAdd, Nat.reduceLT, Nat.reduceLeDiff, Nat.reduceMul, Nat.reduceSub, not_true_eq_false, not_false_eq_true, and_self, and_true, true_and, and_false, false_and, nI_add, cx1, kd0 hc.1, kd66 hm1.1, e1, e2]
theorem lx_22 (hc : cRep S σ) (hm : mRep S σ) (hO : sOK N S) (hN : N < 1000) (h4 : i + 4 ≤ X.2) (h256 : X.2 ≤ 256) : ∃ S' σ', am_w X 10 0 780 [some (.double u), some (.ref (0 : Nat)), some (.ref (66 : Nat)), some (.int (nI i))] [] σ = am_w X 10 0 958 [some (.double u), some (.ref (0 : Nat)), some (.ref (66 : Nat)), some (.int (nI i))] [] σ' ∧ cRep S' σ' ∧ mRep S' σ' ∧ sOK (N + 1) S' := by
  have hx1 := lx_ix (X := X) (i := i) (k := 1) h4 (by decide) h256
  have cx1 := lx_cl (X := X) (i := i) (k := 1) h4 (by decide) h256
  have hx2 := lx_ix (X := X) (i := i) (k := 2) h4 (by decide) h256
  have cx2 := lx_cl (X := X) (i := i) (k := 2) h4 (by decide) h256
  have hx3 := lx_ix (X := X) (i := i) (k := 3) h4 (by decide) h256
  have cx3 := lx_cl (X := X) (i := i) (k := 3) h4 (by decide) h256
  have e10 : (nI 1 = nI 0) = False := by decide +kernel
  by_cases q : X.1 (i + 3) = nI 0
  · have q' : (X.1 (i + 3) = nI 0) = True := eq_true q
    obtain ⟨σ1, e1, r1, p1⟩ := c108 (X := X) (d := 4) (v := (X.1 (i + 1))) (w := (X.1 (i + 2))) hc hO (f := 0) (by decide)
    have e1 : am_v X 10 108 _ _ = _ := e1
    have hm1 := hm.pi p1
    obtain ⟨σ2, e2, r2, p2⟩ := c194 (X := X) (d := 3) (v := (X.1 (i + 1))) (w := (X.1 (i + 2))) hm1 hO (f := 0) (by decide)
    have e2 : am_v X 10 194 _ _ = _ := e2
    refine ⟨(oSee S (X.1 (i + 1)) (X.1 (i + 2)) 0).2, σ2, ?_, r1.pi p2, r2, oSee_ok hO (by decide)⟩
    simp only [s0_780, s0_781, s0_782, s0_783, s0_784, s0_785 (i := nI (i + 1)) hx1, s0_786, s0_787, s0_788, s0_789, s0_790 (i := nI (i + 2)) hx2, s0_791, s0_792, s0_793, s0_794, s0_795 (i := nI (i + 3)) hx3, s0_796, s0_799, s0_800, s0_803, s0_804, s0_807, s0_808, s0_809, s0_810, s0_811, s0_812 (i := nI (i + 1)) hx1, s0_813, s0_814, s0_815, s0_816, s0_817 (i := nI (i + 2)) hx2, s0_818, s0_819, s0_820, s0_821, s0_822 (i := nI (i + 3)) hx3, s0_823, s0_826, s0_827, s0_830, s0_831, s0_834, s0_837, am_pu_s, am_pu_n, va_rf_s, va_rf_n, Option.bind_some, true_or, or_true, eq_self, if_true, if_false, ite_self, ite_true, ite_false, ↓reduceIte, reduceCtorEq, Nat.reduceEqDiff, Nat.reduceAdd, Nat.reduceLT, Nat.reduceLeDiff, Nat.reduceMul, Nat.reduceSub, not_true_eq_false, not_false_eq_true, and_self, and_true, true_and, and_false, false_and, nI_add, cx1, cx2, cx3, kd0 hc.1, kd66 hm1.1, e1, e2, q']
  · have q' : (X.1 (i + 3) = nI 0) = False := eq_false q
    obtain ⟨σ1, e1, r1, p1⟩ := c108 (X := X) (d := 4) (v := (X.1 (i + 1))) (w := (X.1 (i + 2))) hc hO (f := 1) (by decide)
    have e1 : am_v X 10 108 _ _ = _ := e1
    have hm1 := hm.pi p1
    obtain ⟨σ2, e2, r2, p2⟩ := c194 (X := X) (d := 3) (v := (X.1 (i + 1))) (w := (X.1 (i + 2))) hm1 hO (f := 1) (by decide)
    have e2 : am_v X 10 194 _ _ = _ := e2
    refine ⟨(oSee S (X.1 (i + 1)) (X.1 (i + 2)) 1).2, σ2, ?_, r1.pi p2, r2, oSee_ok hO (by decide)⟩
    simp only [s0_780, s0_781, s0_782, s0_783, s0_784, s0_785 (i := nI (i + 1)) hx1, s0_786, s0_787, s0_788, s0_789, s0_790 (i := nI (i + 2)) hx2, s0_791, s0_792, s0_793, s0_794, s0_795 (i := nI (i + 3)) hx3, s0_796, s0_799, s0_800, s0_803, s0_804, s0_807, s0_808, s0_809, s0_810, s0_811, s0_812 (i := nI (i + 1)) hx1, s0_813, s0_814, s0_815, s0_816, s0_817 (i := nI (i + 2)) hx2, s0_818, s0_819, s0_820, s0_821, s0_822 (i := nI (i + 3)) hx3, s0_823, s0_826, s0_827, s0_830, s0_831, s0_834, s0_837, am_pu_s, am_pu_n, va_rf_s, va_rf_n, Option.bind_some, true_or, or_true, eq_self, if_true, if_false, ite_self, ite_true, ite_false, ↓reduceIte, reduceCtorEq, Nat.reduceEqDiff, Nat.reduceAdd, Nat.reduceLT, Nat.reduceLeDiff, Nat.reduceMul, Nat.reduceSub, not_true_eq_false, not_false_eq_true, and_self, and_true, true_and, and_false, false_and, nI_add, cx1, cx2, cx3, kd0 hc.1, kd66 hm1.1, e1, e2, q']
theorem lx_23 (hc : cRep S σ) (hm : mRep S σ) (hO : sOK N S) (hN : N < 1000) (h4 : i + 4 ≤ X.2) (h256 : X.2 ≤ 256) : ∃ S' σ', am_w X 10 0 839 [some (.double u), some (.ref (0 : Nat)), some (.ref (66 : Nat)), some (.int (nI i))] [] σ = am_w X 10 0 958 [some (.double u), some (.ref (0 : Nat)), some (.ref (66 : Nat)), some (.int (nI i))] [] σ' ∧ cRep S' σ' ∧ mRep S' σ' ∧ sOK (N + 1) S' := by
  obtain ⟨σ1, e1, r1, p1⟩ := c109 (X := X) (d := 8) hc
  have e1 : am_v X 10 109 _ _ = _ := e1
  have hm1 := hm.pi p1
  obtain ⟨σ2, e2, r2, p2⟩ := c195 (X := X) (d := 9) hm1
  have e2 : am_v X 10 195 _ _ = _ := e2
  refine ⟨(oFor S).2, σ2, ?_, r1.pi p2, r2, oFor_ok hO⟩
  simp only [s0_839, s0_840, s0_843, s0_844, s0_847, s0_850, am_pu_s, am_pu_n, va_rf_s, va_rf_n, Option.bind_some, true_or, or_true, eq_self, if_true, if_false, ite_self, ite_true, ite_false, ↓reduceIte, reduceCtorEq, Nat.reduceEqDiff, Nat.reduceAdd, Nat.reduceLT, Nat.reduceLeDiff, Nat.reduceMul, Nat.reduceSub, not_true_eq_false, not_false_eq_true, and_self, and_true, true_and, and_false, false_and, nI_add, kd0 hc.1, kd66 hm1.1, e1, e2]
theorem lx_24 (hc : cRep S σ) (hm : mRep S σ) (hO : sOK N S) (hN : N < 1000) (h4 : i + 4 ≤ X.2) (h256 : X.2 ≤ 256) : ∃ S' σ', am_w X 10 0 852 [some (.double u), some (.ref (0 : Nat)), some (.ref (66 : Nat)), some (.int (nI i))] [] σ = am_w X 10 0 958 [some (.double u), some (.ref (0 : Nat)), some (.ref (66 : Nat)), some (.int (nI i))] [] σ' ∧ cRep S' σ' ∧ mRep S' σ' ∧ sOK (N + 1) S' := by
  have hx1 := lx_ix (X := X) (i := i) (k := 1) h4 (by decide) h256
  have cx1 := lx_cl (X := X) (i := i) (k := 1) h4 (by decide) h256
  have hx2 := lx_ix (X := X) (i := i) (k := 2) h4 (by decide) h256
  have cx2 := lx_cl (X := X) (i := i) (k := 2) h4 (by decide) h256
  have hx3 := lx_ix (X := X) (i := i) (k := 3) h4 (by decide) h256
  have cx3 := lx_cl (X := X) (i := i) (k := 3) h4 (by decide) h256
  obtain ⟨σ1, e1, p1, _⟩ := c110 (X := X) (d := 3) (v := (X.1 (i + 1))) (w := (X.1 (i + 2))) (x := (X.1 (i + 3))) hc hO
  have e1 : am_v X 10 110 _ _ = _ := e1
  have hm1 := hm.piB p1
  have hc1 := hc.piB p1
  obtain ⟨σ2, e2, p2, _⟩ := c201 (X := X) (d := 3) (v := (X.1 (i + 1))) (w := (X.1 (i + 2))) (x := (X.1 (i + 3))) hm1 hO
  have e2 : am_v X 10 201 _ _ = _ := e2
  refine ⟨S, σ2, ?_, hc1.piB p2, hm1.piB p2, sOK_up hO⟩
  simp only [s0_852, s0_853, s0_854, s0_855, s0_856, s0_857 (i := nI (i + 1)) hx1, s0_858, s0_859, s0_860, s0_861, s0_862 (i := nI (i + 2)) hx2, s0_863, s0_864, s0_865, s0_866, s0_867 (i := nI (i + 3)) hx3, s0_868, s0_871, s0_872, s0_873, s0_874, s0_875, s0_876 (i := nI (i + 1)) hx1, s0_877, s0_878, s0_879, s0_880, s0_881 (i := nI (i + 2)) hx2, s0_882, s0_883, s0_884, s0_885, s0_886 (i := nI (i + 3)) hx3, s0_887, s0_890, s0_893, am_pu_s, am_pu_n, va_rf_s, va_rf_n, Option.bind_some, true_or, or_true, eq_self, if_true, if_false, ite_self, ite_true, ite_false, ↓reduceIte, reduceCtorEq, Nat.reduceEqDiff, Nat.reduceAdd, Nat.reduceLT, Nat.reduceLeDiff, Nat.reduceMul, Nat.reduceSub, not_true_eq_false, not_false_eq_true, and_self, and_true, true_and, and_false, false_and, nI_add, cx1, cx2, cx3, kd0 hc.1, kd66 hm1.1, e1, e2]
theorem lx_25 (hc : cRep S σ) (hm : mRep S σ) (hO : sOK N S) (hN : N < 1000) (h4 : i + 4 ≤ X.2) (h256 : X.2 ≤ 256) : ∃ S' σ', am_w X 10 0 895 [some (.double u), some (.ref (0 : Nat)), some (.ref (66 : Nat)), some (.int (nI i))] [] σ = am_w X 10 0 958 [some (.double u), some (.ref (0 : Nat)), some (.ref (66 : Nat)), some (.int (nI i))] [] σ' ∧ cRep S' σ' ∧ mRep S' σ' ∧ sOK (N + 1) S' := by
  obtain ⟨σ1, e1, r1, p1⟩ := c111 (X := X) (d := 7) hc hO
  have e1 : am_v X 10 111 _ _ = _ := e1
  have hm1 := hm.pi p1
  obtain ⟨σ2, e2, r2, p2⟩ := c203 (X := X) (d := 8) hm1 hO
  have e2 : am_v X 10 203 _ _ = _ := e2
  refine ⟨(oIma S).2, σ2, ?_, r1.pi p2, r2, oIma_ok hO⟩
  simp only [s0_895, s0_896, s0_899, s0_900, s0_903, s0_906, am_pu_s, am_pu_n, va_rf_s, va_rf_n, Option.bind_some, true_or, or_true, eq_self, if_true, if_false, ite_self, ite_true, ite_false, ↓reduceIte, reduceCtorEq, Nat.reduceEqDiff, Nat.reduceAdd, Nat.reduceLT, Nat.reduceLeDiff, Nat.reduceMul, Nat.reduceSub, not_true_eq_false, not_false_eq_true, and_self, and_true, true_and, and_false, false_and, nI_add, kd0 hc.1, kd66 hm1.1, e1, e2]
theorem lx_26 (hc : cRep S σ) (hm : mRep S σ) (hO : sOK N S) (hN : N < 1000) (h4 : i + 4 ≤ X.2) (h256 : X.2 ≤ 256) : ∃ S' σ', am_w X 10 0 908 [some (.double u), some (.ref (0 : Nat)), some (.ref (66 : Nat)), some (.int (nI i))] [] σ = am_w X 10 0 958 [some (.double u), some (.ref (0 : Nat)), some (.ref (66 : Nat)), some (.int (nI i))] [] σ' ∧ cRep S' σ' ∧ mRep S' σ' ∧ sOK (N + 1) S' := by
  obtain ⟨σ1, e1, r1, p1⟩ := c112 (X := X) (d := 7) hc hO
  have e1 : am_v X 10 112 _ _ = _ := e1
  have hm1 := hm.pi p1
  obtain ⟨σ2, e2, r2, p2⟩ := c204 (X := X) (d := 8) hm1 hO hN
  have e2 : am_v X 10 204 _ _ = _ := e2
  refine ⟨(oRes S).2, σ2, ?_, r1.pi p2, r2, oRes_ok hO⟩
  simp only [s0_908, s0_909, s0_912, s0_913, s0_916, s0_919, am_pu_s, am_pu_n, va_rf_s, va_rf_n, Option.bind_some, true_or, or_true, eq_self, if_true, if_false, ite_self, ite_true, ite_false, ↓reduceIte, reduceCtorEq, Nat.reduceEqDiff, Nat.reduceAdd, Nat.reduceLT, Nat.reduceLeDiff, Nat.reduceMul, Nat.reduceSub, not_true_eq_false, not_false_eq_true, and_self, and_true, true_and, and_false, false_and, nI_add, kd0 hc.1, kd66 hm1.1, e1, e2]
theorem lx_27 (hc : cRep S σ) (hm : mRep S σ) (hO : sOK N S) (hN : N < 1000) (h4 : i + 4 ≤ X.2) (h256 : X.2 ≤ 256) : ∃ S' σ', am_w X 10 0 921 [some (.double u), some (.ref (0 : Nat)), some (.ref (66 : Nat)), some (.int (nI i))] [] σ = am_w X 10 0 958 [some (.double u), some (.ref (0 : Nat)), some (.ref (66 : Nat)), some (.int (nI i))] [] σ' ∧ cRep S' σ' ∧ mRep S' σ' ∧ sOK (N + 1) S' := by
  have hx1 := lx_ix (X := X) (i := i) (k := 1) h4 (by decide) h256
  have cx1 := lx_cl (X := X) (i := i) (k := 1) h4 (by decide) h256
  obtain ⟨σ1, e1, p1⟩ := c113 (X := X) (d := 2) (v := (X.1 (i + 1))) hc hO
  have e1 : am_v X 10 113 _ _ = _ := e1
  have hm1 := hm.piA p1.i
  have hc1 := hc.piA p1.i
  obtain ⟨σ2, e2, p2⟩ := c211 (X := X) (d := 1) (v := (X.1 (i + 1))) hm1 hO
  have e2 : am_v X 10 211 _ _ = _ := e2
  refine ⟨S, σ2, ?_, hc1.piA p2.i, hm1.piA p2.i, sOK_up hO⟩
  simp only [s0_921, s0_922, s0_923, s0_924, s0_925, s0_926 (i := nI (i + 1)) hx1, s0_927, s0_930, s0_931, s0_932, s0_933, s0_934, s0_935 (i := nI (i + 1)) hx1, s0_936, s0_939, s0_942, am_pu_s, am_pu_n, va_rf_s, va_rf_n, Option.bind_some, true_or, or_true, eq_self, if_true, if_false, ite_self, ite_true, ite_false, ↓reduceIte, reduceCtorEq, Nat.reduceEqDiff, Nat.reduceAdd, Nat.reduceLT, Nat.reduceLeDiff, Nat.reduceMul, Nat.reduceSub, not_true_eq_false, not_false_eq_true, and_self, and_true, true_and, and_false, false_and, nI_add, cx1, kd0 hc.1, kd66 hm1.1, e1, e2]
theorem lx_cm {a : Int64} : lg_cmp a a = nI 0 := by
  unfold lg_cmp
  simp only [Int64.lt_irrefl, if_false, eq_self, if_true]
  rfl
theorem lx_28 (hc : cRep S σ) (hm : mRep S σ) (hO : sOK N S) (hN : N < 1000) (h4 : i + 4 ≤ X.2) (h256 : X.2 ≤ 256) : ∃ S' σ', am_w X 10 0 944 [some (.double u), some (.ref (0 : Nat)), some (.ref (66 : Nat)), some (.int (nI i))] [] σ = am_w X 10 0 958 [some (.double u), some (.ref (0 : Nat)), some (.ref (66 : Nat)), some (.int (nI i))] [] σ' ∧ cRep S' σ' ∧ mRep S' σ' ∧ sOK (N + 1) S' := by
  obtain ⟨σ1, e1, p1⟩ := c114 (X := X) (d := 1) hc hO
  have e1 : am_v X 10 114 _ _ = _ := e1
  have hm1 := hm.piB p1.i
  have hc1 := hc.piB p1.i
  obtain ⟨σ2, e2, p2⟩ := c214 (X := X) (d := 1) hm1 hO
  have e2 : am_v X 10 214 _ _ = _ := e2
  refine ⟨S, σ2, ?_, hc1.piB p2, hm1.piB p2, sOK_up hO⟩
  simp only [s0_944, s0_945, s0_948, s0_949, s0_952, s0_953, s0_956, am_pu_s, am_pu_n, va_rf_s, va_rf_n, Option.bind_some, true_or, or_true, eq_self, if_true, if_false, ite_self, ite_true, ite_false, ↓reduceIte, reduceCtorEq, Nat.reduceEqDiff, Nat.reduceAdd, Nat.reduceLT, Nat.reduceLeDiff, Nat.reduceMul, Nat.reduceSub, not_true_eq_false, not_false_eq_true, and_self, and_true, true_and, and_false, false_and, nI_add, kd0 hc.1, kd66 hm1.1, e1, e2, lx_cm]
theorem lx_step (hc : cRep S σ) (hm : mRep S σ) (hO : sOK N S) (hN : N < 1000) (h4 : i + 4 ≤ X.2) (h256 : X.2 ≤ 256) (j : Nat) (hj : j < 32) : ∃ S' σ', am_w X 10 0 32 [some (.double u), some (.ref (0 : Nat)), some (.ref (66 : Nat)), some (.int (nI i))] [.int (nI j)] σ = am_w X 10 0 958 [some (.double u), some (.ref (0 : Nat)), some (.ref (66 : Nat)), some (.int (nI i))] [] σ' ∧ cRep S' σ' ∧ mRep S' σ' ∧ sOK (N + 1) S' := by
  have hj' : j = 0 ∨ j = 1 ∨ j = 2 ∨ j = 3 ∨ j = 4 ∨ j = 5 ∨ j = 6 ∨ j = 7 ∨ j = 8 ∨ j = 9 ∨ j = 10 ∨ j = 11 ∨ j = 12 ∨ j = 13 ∨ j = 14 ∨ j = 15 ∨ j = 16 ∨ j = 17 ∨ j = 18 ∨ j = 19 ∨ j = 20 ∨ j = 21 ∨ j = 22 ∨ j = 23 ∨ j = 24 ∨ j = 25 ∨ j = 26 ∨ j = 27 ∨ j = 28 ∨ j = 29 ∨ j = 30 ∨ j = 31 := by omega
  rcases hj' with rfl | rfl | rfl | rfl | rfl | rfl | rfl | rfl | rfl | rfl | rfl | rfl | rfl | rfl | rfl | rfl | rfl | rfl | rfl | rfl | rfl | rfl | rfl | rfl | rfl | rfl | rfl | rfl | rfl | rfl | rfl | rfl
  · have q : (nI 0 = nI 0) = True := eq_self _
    obtain ⟨S', σ', e, h⟩ := lx_0 (u := u) hc hm hO hN h4 h256
    refine ⟨S', σ', ?_, h⟩
    rw [s0_32, if_pos rfl]
    exact e
  · have q : (nI 1 = nI 1) = True := eq_self _
    obtain ⟨S', σ', e, h⟩ := lx_1 (u := u) hc hm hO hN h4 h256
    refine ⟨S', σ', ?_, h⟩
    rw [s0_32, if_neg (by decide +kernel : ¬ nI 1 = nI 0), if_pos rfl]
    exact e
  · have q : (nI 2 = nI 2) = True := eq_self _
    obtain ⟨S', σ', e, h⟩ := lx_2 (u := u) hc hm hO hN h4 h256
    refine ⟨S', σ', ?_, h⟩
    rw [s0_32, if_neg (by decide +kernel : ¬ nI 2 = nI 0), if_neg (by decide +kernel : ¬ nI 2 = nI 1), if_pos rfl]
    exact e
  · have q : (nI 3 = nI 3) = True := eq_self _
    obtain ⟨S', σ', e, h⟩ := lx_3 (u := u) hc hm hO hN h4 h256
    refine ⟨S', σ', ?_, h⟩
    rw [s0_32, if_neg (by decide +kernel : ¬ nI 3 = nI 0), if_neg (by decide +kernel : ¬ nI 3 = nI 1), if_neg (by decide +kernel : ¬ nI 3 = nI 2), if_pos rfl]
    exact e
  · have q : (nI 4 = nI 4) = True := eq_self _
    obtain ⟨S', σ', e, h⟩ := lx_4 (u := u) hc hm hO hN h4 h256
    refine ⟨S', σ', ?_, h⟩
    rw [s0_32, if_neg (by decide +kernel : ¬ nI 4 = nI 0), if_neg (by decide +kernel : ¬ nI 4 = nI 1), if_neg (by decide +kernel : ¬ nI 4 = nI 2), if_neg (by decide +kernel : ¬ nI 4 = nI 3), if_pos rfl]
    exact e
  · have q : (nI 5 = nI 5) = True := eq_self _
    obtain ⟨S', σ', e, h⟩ := lx_5 (u := u) hc hm hO hN h4 h256
    refine ⟨S', σ', ?_, h⟩
    rw [s0_32, if_neg (by decide +kernel : ¬ nI 5 = nI 0), if_neg (by decide +kernel : ¬ nI 5 = nI 1), if_neg (by decide +kernel : ¬ nI 5 = nI 2), if_neg (by decide +kernel : ¬ nI 5 = nI 3), if_neg (by decide +kernel : ¬ nI 5 = nI 4), if_pos rfl]
    exact e
  · have q : (nI 6 = nI 6) = True := eq_self _
    obtain ⟨S', σ', e, h⟩ := lx_6 (u := u) hc hm hO hN h4 h256
    refine ⟨S', σ', ?_, h⟩
    rw [s0_32, if_neg (by decide +kernel : ¬ nI 6 = nI 0), if_neg (by decide +kernel : ¬ nI 6 = nI 1), if_neg (by decide +kernel : ¬ nI 6 = nI 2), if_neg (by decide +kernel : ¬ nI 6 = nI 3), if_neg (by decide +kernel : ¬ nI 6 = nI 4), if_neg (by decide +kernel : ¬ nI 6 = nI 5), if_pos rfl]
    exact e
  · have q : (nI 7 = nI 7) = True := eq_self _
    obtain ⟨S', σ', e, h⟩ := lx_7 (u := u) hc hm hO hN h4 h256
    refine ⟨S', σ', ?_, h⟩
    rw [s0_32, if_neg (by decide +kernel : ¬ nI 7 = nI 0), if_neg (by decide +kernel : ¬ nI 7 = nI 1), if_neg (by decide +kernel : ¬ nI 7 = nI 2), if_neg (by decide +kernel : ¬ nI 7 = nI 3), if_neg (by decide +kernel : ¬ nI 7 = nI 4), if_neg (by decide +kernel : ¬ nI 7 = nI 5), if_neg (by decide +kernel : ¬ nI 7 = nI 6), if_pos rfl]
    exact e
  · have q : (nI 8 = nI 8) = True := eq_self _
    obtain ⟨S', σ', e, h⟩ := lx_8 (u := u) hc hm hO hN h4 h256
    refine ⟨S', σ', ?_, h⟩
    rw [s0_32, if_neg (by decide +kernel : ¬ nI 8 = nI 0), if_neg (by decide +kernel : ¬ nI 8 = nI 1), if_neg (by decide +kernel : ¬ nI 8 = nI 2), if_neg (by decide +kernel : ¬ nI 8 = nI 3), if_neg (by decide +kernel : ¬ nI 8 = nI 4), if_neg (by decide +kernel : ¬ nI 8 = nI 5), if_neg (by decide +kernel : ¬ nI 8 = nI 6), if_neg (by decide +kernel : ¬ nI 8 = nI 7), if_pos rfl]
    exact e
  · have q : (nI 9 = nI 9) = True := eq_self _
    obtain ⟨S', σ', e, h⟩ := lx_9 (u := u) hc hm hO hN h4 h256
    refine ⟨S', σ', ?_, h⟩
    rw [s0_32, if_neg (by decide +kernel : ¬ nI 9 = nI 0), if_neg (by decide +kernel : ¬ nI 9 = nI 1), if_neg (by decide +kernel : ¬ nI 9 = nI 2), if_neg (by decide +kernel : ¬ nI 9 = nI 3), if_neg (by decide +kernel : ¬ nI 9 = nI 4), if_neg (by decide +kernel : ¬ nI 9 = nI 5), if_neg (by decide +kernel : ¬ nI 9 = nI 6), if_neg (by decide +kernel : ¬ nI 9 = nI 7), if_neg (by decide +kernel : ¬ nI 9 = nI 8), if_pos rfl]
    exact e
  · have q : (nI 10 = nI 10) = True := eq_self _
    obtain ⟨S', σ', e, h⟩ := lx_10 (u := u) hc hm hO hN h4 h256
    refine ⟨S', σ', ?_, h⟩
    rw [s0_32, if_neg (by decide +kernel : ¬ nI 10 = nI 0), if_neg (by decide +kernel : ¬ nI 10 = nI 1), if_neg (by decide +kernel : ¬ nI 10 = nI 2), if_neg (by decide +kernel : ¬ nI 10 = nI 3), if_neg (by decide +kernel : ¬ nI 10 = nI 4), if_neg (by decide +kernel : ¬ nI 10 = nI 5), if_neg (by decide +kernel : ¬ nI 10 = nI 6), if_neg (by decide +kernel : ¬ nI 10 = nI 7), if_neg (by decide +kernel : ¬ nI 10 = nI 8), if_neg (by decide +kernel : ¬ nI 10 = nI 9), if_pos rfl]
    exact e
  · have q : (nI 11 = nI 11) = True := eq_self _
    obtain ⟨S', σ', e, h⟩ := lx_11 (u := u) hc hm hO hN h4 h256
    refine ⟨S', σ', ?_, h⟩
    rw [s0_32, if_neg (by decide +kernel : ¬ nI 11 = nI 0), if_neg (by decide +kernel : ¬ nI 11 = nI 1), if_neg (by decide +kernel : ¬ nI 11 = nI 2), if_neg (by decide +kernel : ¬ nI 11 = nI 3), if_neg (by decide +kernel : ¬ nI 11 = nI 4), if_neg (by decide +kernel : ¬ nI 11 = nI 5), if_neg (by decide +kernel : ¬ nI 11 = nI 6), if_neg (by decide +kernel : ¬ nI 11 = nI 7), if_neg (by decide +kernel : ¬ nI 11 = nI 8), if_neg (by decide +kernel : ¬ nI 11 = nI 9), if_neg (by decide +kernel : ¬ nI 11 = nI 10), if_pos rfl]
    exact e
  · have q : (nI 12 = nI 12) = True := eq_self _
    obtain ⟨S', σ', e, h⟩ := lx_12 (u := u) hc hm hO hN h4 h256
    refine ⟨S', σ', ?_, h⟩
    rw [s0_32, if_neg (by decide +kernel : ¬ nI 12 = nI 0), if_neg (by decide +kernel : ¬ nI 12 = nI 1), if_neg (by decide +kernel : ¬ nI 12 = nI 2), if_neg (by decide +kernel : ¬ nI 12 = nI 3), if_neg (by decide +kernel : ¬ nI 12 = nI 4), if_neg (by decide +kernel : ¬ nI 12 = nI 5), if_neg (by decide +kernel : ¬ nI 12 = nI 6), if_neg (by decide +kernel : ¬ nI 12 = nI 7), if_neg (by decide +kernel : ¬ nI 12 = nI 8), if_neg (by decide +kernel : ¬ nI 12 = nI 9), if_neg (by decide +kernel : ¬ nI 12 = nI 10), if_neg (by decide +kernel : ¬ nI 12 = nI 11), if_pos rfl]
    exact e
  · have q : (nI 13 = nI 13) = True := eq_self _
    obtain ⟨S', σ', e, h⟩ := lx_13 (u := u) hc hm hO hN h4 h256
    refine ⟨S', σ', ?_, h⟩
    rw [s0_32, if_neg (by decide +kernel : ¬ nI 13 = nI 0), if_neg (by decide +kernel : ¬ nI 13 = nI 1), if_neg (by decide +kernel : ¬ nI 13 = nI 2), if_neg (by decide +kernel : ¬ nI 13 = nI 3), if_neg (by decide +kernel : ¬ nI 13 = nI 4), if_neg (by decide +kernel : ¬ nI 13 = nI 5), if_neg (by decide +kernel : ¬ nI 13 = nI 6), if_neg (by decide +kernel : ¬ nI 13 = nI 7), if_neg (by decide +kernel : ¬ nI 13 = nI 8), if_neg (by decide +kernel : ¬ nI 13 = nI 9), if_neg (by decide +kernel : ¬ nI 13 = nI 10), if_neg (by decide +kernel : ¬ nI 13 = nI 11), if_neg (by decide +kernel : ¬ nI 13 = nI 12), if_pos rfl]
    exact e
  · have q : (nI 14 = nI 14) = True := eq_self _
    obtain ⟨S', σ', e, h⟩ := lx_14 (u := u) hc hm hO hN h4 h256
    refine ⟨S', σ', ?_, h⟩
    rw [s0_32, if_neg (by decide +kernel : ¬ nI 14 = nI 0), if_neg (by decide +kernel : ¬ nI 14 = nI 1), if_neg (by decide +kernel : ¬ nI 14 = nI 2), if_neg (by decide +kernel : ¬ nI 14 = nI 3), if_neg (by decide +kernel : ¬ nI 14 = nI 4), if_neg (by decide +kernel : ¬ nI 14 = nI 5), if_neg (by decide +kernel : ¬ nI 14 = nI 6), if_neg (by decide +kernel : ¬ nI 14 = nI 7), if_neg (by decide +kernel : ¬ nI 14 = nI 8), if_neg (by decide +kernel : ¬ nI 14 = nI 9), if_neg (by decide +kernel : ¬ nI 14 = nI 10), if_neg (by decide +kernel : ¬ nI 14 = nI 11), if_neg (by decide +kernel : ¬ nI 14 = nI 12), if_neg (by decide +kernel : ¬ nI 14 = nI 13), if_pos rfl]
    exact e
  · have q : (nI 15 = nI 15) = True := eq_self _
    obtain ⟨S', σ', e, h⟩ := lx_15 (u := u) hc hm hO hN h4 h256
    refine ⟨S', σ', ?_, h⟩
    rw [s0_32, if_neg (by decide +kernel : ¬ nI 15 = nI 0), if_neg (by decide +kernel : ¬ nI 15 = nI 1), if_neg (by decide +kernel : ¬ nI 15 = nI 2), if_neg (by decide +kernel : ¬ nI 15 = nI 3), if_neg (by decide +kernel : ¬ nI 15 = nI 4), if_neg (by decide +kernel : ¬ nI 15 = nI 5), if_neg (by decide +kernel : ¬ nI 15 = nI 6), if_neg (by decide +kernel : ¬ nI 15 = nI 7), if_neg (by decide +kernel : ¬ nI 15 = nI 8), if_neg (by decide +kernel : ¬ nI 15 = nI 9), if_neg (by decide +kernel : ¬ nI 15 = nI 10), if_neg (by decide +kernel : ¬ nI 15 = nI 11), if_neg (by decide +kernel : ¬ nI 15 = nI 12), if_neg (by decide +kernel : ¬ nI 15 = nI 13), if_neg (by decide +kernel : ¬ nI 15 = nI 14), if_pos rfl]
    exact e
  · have q : (nI 16 = nI 16) = True := eq_self _
    obtain ⟨S', σ', e, h⟩ := lx_16 (u := u) hc hm hO hN h4 h256
    refine ⟨S', σ', ?_, h⟩
    rw [s0_32, if_neg (by decide +kernel : ¬ nI 16 = nI 0), if_neg (by decide +kernel : ¬ nI 16 = nI 1), if_neg (by decide +kernel : ¬ nI 16 = nI 2), if_neg (by decide +kernel : ¬ nI 16 = nI 3), if_neg (by decide +kernel : ¬ nI 16 = nI 4), if_neg (by decide +kernel : ¬ nI 16 = nI 5), if_neg (by decide +kernel : ¬ nI 16 = nI 6), if_neg (by decide +kernel : ¬ nI 16 = nI 7), if_neg (by decide +kernel : ¬ nI 16 = nI 8), if_neg (by decide +kernel : ¬ nI 16 = nI 9), if_neg (by decide +kernel : ¬ nI 16 = nI 10), if_neg (by decide +kernel : ¬ nI 16 = nI 11), if_neg (by decide +kernel : ¬ nI 16 = nI 12), if_neg (by decide +kernel : ¬ nI 16 = nI 13), if_neg (by decide +kernel : ¬ nI 16 = nI 14), if_neg (by decide +kernel : ¬ nI 16 = nI 15), if_pos rfl]
    exact e
  · have q : (nI 17 = nI 17) = True := eq_self _
    obtain ⟨S', σ', e, h⟩ := lx_17 (u := u) hc hm hO hN h4 h256
    refine ⟨S', σ', ?_, h⟩
    rw [s0_32, if_neg (by decide +kernel : ¬ nI 17 = nI 0), if_neg (by decide +kernel : ¬ nI 17 = nI 1), if_neg (by decide +kernel : ¬ nI 17 = nI 2), if_neg (by decide +kernel : ¬ nI 17 = nI 3), if_neg (by decide +kernel : ¬ nI 17 = nI 4), if_neg (by decide +kernel : ¬ nI 17 = nI 5), if_neg (by decide +kernel : ¬ nI 17 = nI 6), if_neg (by decide +kernel : ¬ nI 17 = nI 7), if_neg (by decide +kernel : ¬ nI 17 = nI 8), if_neg (by decide +kernel : ¬ nI 17 = nI 9), if_neg (by decide +kernel : ¬ nI 17 = nI 10), if_neg (by decide +kernel : ¬ nI 17 = nI 11), if_neg (by decide +kernel : ¬ nI 17 = nI 12), if_neg (by decide +kernel : ¬ nI 17 = nI 13), if_neg (by decide +kernel : ¬ nI 17 = nI 14), if_neg (by decide +kernel : ¬ nI 17 = nI 15), if_neg (by decide +kernel : ¬ nI 17 = nI 16), if_pos rfl]
    exact e
  · have q : (nI 18 = nI 18) = True := eq_self _
    obtain ⟨S', σ', e, h⟩ := lx_18 (u := u) hc hm hO hN h4 h256
    refine ⟨S', σ', ?_, h⟩
    rw [s0_32, if_neg (by decide +kernel : ¬ nI 18 = nI 0), if_neg (by decide +kernel : ¬ nI 18 = nI 1), if_neg (by decide +kernel : ¬ nI 18 = nI 2), if_neg (by decide +kernel : ¬ nI 18 = nI 3), if_neg (by decide +kernel : ¬ nI 18 = nI 4), if_neg (by decide +kernel : ¬ nI 18 = nI 5), if_neg (by decide +kernel : ¬ nI 18 = nI 6), if_neg (by decide +kernel : ¬ nI 18 = nI 7), if_neg (by decide +kernel : ¬ nI 18 = nI 8), if_neg (by decide +kernel : ¬ nI 18 = nI 9), if_neg (by decide +kernel : ¬ nI 18 = nI 10), if_neg (by decide +kernel : ¬ nI 18 = nI 11), if_neg (by decide +kernel : ¬ nI 18 = nI 12), if_neg (by decide +kernel : ¬ nI 18 = nI 13), if_neg (by decide +kernel : ¬ nI 18 = nI 14), if_neg (by decide +kernel : ¬ nI 18 = nI 15), if_neg (by decide +kernel : ¬ nI 18 = nI 16), if_neg (by decide +kernel : ¬ nI 18 = nI 17), if_pos rfl]
    exact e
  · have q : (nI 19 = nI 19) = True := eq_self _
    obtain ⟨S', σ', e, h⟩ := lx_19 (u := u) hc hm hO hN h4 h256
    refine ⟨S', σ', ?_, h⟩
    rw [s0_32, if_neg (by decide +kernel : ¬ nI 19 = nI 0), if_neg (by decide +kernel : ¬ nI 19 = nI 1), if_neg (by decide +kernel : ¬ nI 19 = nI 2), if_neg (by decide +kernel : ¬ nI 19 = nI 3), if_neg (by decide +kernel : ¬ nI 19 = nI 4), if_neg (by decide +kernel : ¬ nI 19 = nI 5), if_neg (by decide +kernel : ¬ nI 19 = nI 6), if_neg (by decide +kernel : ¬ nI 19 = nI 7), if_neg (by decide +kernel : ¬ nI 19 = nI 8), if_neg (by decide +kernel : ¬ nI 19 = nI 9), if_neg (by decide +kernel : ¬ nI 19 = nI 10), if_neg (by decide +kernel : ¬ nI 19 = nI 11), if_neg (by decide +kernel : ¬ nI 19 = nI 12), if_neg (by decide +kernel : ¬ nI 19 = nI 13), if_neg (by decide +kernel : ¬ nI 19 = nI 14), if_neg (by decide +kernel : ¬ nI 19 = nI 15), if_neg (by decide +kernel : ¬ nI 19 = nI 16), if_neg (by decide +kernel : ¬ nI 19 = nI 17), if_neg (by decide +kernel : ¬ nI 19 = nI 18), if_pos rfl]
    exact e
  · have q : (nI 20 = nI 20) = True := eq_self _
    obtain ⟨S', σ', e, h⟩ := lx_20 (u := u) hc hm hO hN h4 h256
    refine ⟨S', σ', ?_, h⟩
    rw [s0_32, if_neg (by decide +kernel : ¬ nI 20 = nI 0), if_neg (by decide +kernel : ¬ nI 20 = nI 1), if_neg (by decide +kernel : ¬ nI 20 = nI 2), if_neg (by decide +kernel : ¬ nI 20 = nI 3), if_neg (by decide +kernel : ¬ nI 20 = nI 4), if_neg (by decide +kernel : ¬ nI 20 = nI 5), if_neg (by decide +kernel : ¬ nI 20 = nI 6), if_neg (by decide +kernel : ¬ nI 20 = nI 7), if_neg (by decide +kernel : ¬ nI 20 = nI 8), if_neg (by decide +kernel : ¬ nI 20 = nI 9), if_neg (by decide +kernel : ¬ nI 20 = nI 10), if_neg (by decide +kernel : ¬ nI 20 = nI 11), if_neg (by decide +kernel : ¬ nI 20 = nI 12), if_neg (by decide +kernel : ¬ nI 20 = nI 13), if_neg (by decide +kernel : ¬ nI 20 = nI 14), if_neg (by decide +kernel : ¬ nI 20 = nI 15), if_neg (by decide +kernel : ¬ nI 20 = nI 16), if_neg (by decide +kernel : ¬ nI 20 = nI 17), if_neg (by decide +kernel : ¬ nI 20 = nI 18), if_neg (by decide +kernel : ¬ nI 20 = nI 19), if_pos rfl]
    exact e
  · have q : (nI 21 = nI 21) = True := eq_self _
    obtain ⟨S', σ', e, h⟩ := lx_21 (u := u) hc hm hO hN h4 h256
    refine ⟨S', σ', ?_, h⟩
    rw [s0_32, if_neg (by decide +kernel : ¬ nI 21 = nI 0), if_neg (by decide +kernel : ¬ nI 21 = nI 1), if_neg (by decide +kernel : ¬ nI 21 = nI 2), if_neg (by decide +kernel : ¬ nI 21 = nI 3), if_neg (by decide +kernel : ¬ nI 21 = nI 4), if_neg (by decide +kernel : ¬ nI 21 = nI 5), if_neg (by decide +kernel : ¬ nI 21 = nI 6), if_neg (by decide +kernel : ¬ nI 21 = nI 7), if_neg (by decide +kernel : ¬ nI 21 = nI 8), if_neg (by decide +kernel : ¬ nI 21 = nI 9), if_neg (by decide +kernel : ¬ nI 21 = nI 10), if_neg (by decide +kernel : ¬ nI 21 = nI 11), if_neg (by decide +kernel : ¬ nI 21 = nI 12), if_neg (by decide +kernel : ¬ nI 21 = nI 13), if_neg (by decide +kernel : ¬ nI 21 = nI 14), if_neg (by decide +kernel : ¬ nI 21 = nI 15), if_neg (by decide +kernel : ¬ nI 21 = nI 16), if_neg (by decide +kernel : ¬ nI 21 = nI 17), if_neg (by decide +kernel : ¬ nI 21 = nI 18), if_neg (by decide +kernel : ¬ nI 21 = nI 19), if_neg (by decide +kernel : ¬ nI 21 = nI 20), if_pos rfl]
    exact e
  · have q : (nI 22 = nI 22) = True := eq_self _
    obtain ⟨S', σ', e, h⟩ := lx_22 (u := u) hc hm hO hN h4 h256
    refine ⟨S', σ', ?_, h⟩
    rw [s0_32, if_neg (by decide +kernel : ¬ nI 22 = nI 0), if_neg (by decide +kernel : ¬ nI 22 = nI 1), if_neg (by decide +kernel : ¬ nI 22 = nI 2), if_neg (by decide +kernel : ¬ nI 22 = nI 3), if_neg (by decide +kernel : ¬ nI 22 = nI 4), if_neg (by decide +kernel : ¬ nI 22 = nI 5), if_neg (by decide +kernel : ¬ nI 22 = nI 6), if_neg (by decide +kernel : ¬ nI 22 = nI 7), if_neg (by decide +kernel : ¬ nI 22 = nI 8), if_neg (by decide +kernel : ¬ nI 22 = nI 9), if_neg (by decide +kernel : ¬ nI 22 = nI 10), if_neg (by decide +kernel : ¬ nI 22 = nI 11), if_neg (by decide +kernel : ¬ nI 22 = nI 12), if_neg (by decide +kernel : ¬ nI 22 = nI 13), if_neg (by decide +kernel : ¬ nI 22 = nI 14), if_neg (by decide +kernel : ¬ nI 22 = nI 15), if_neg (by decide +kernel : ¬ nI 22 = nI 16), if_neg (by decide +kernel : ¬ nI 22 = nI 17), if_neg (by decide +kernel : ¬ nI 22 = nI 18), if_neg (by decide +kernel : ¬ nI 22 = nI 19), if_neg (by decide +kernel : ¬ nI 22 = nI 20), if_neg (by decide +kernel : ¬ nI 22 = nI 21), if_pos rfl]
    exact e
  · have q : (nI 23 = nI 23) = True := eq_self _
    obtain ⟨S', σ', e, h⟩ := lx_23 (u := u) hc hm hO hN h4 h256
    refine ⟨S', σ', ?_, h⟩
    rw [s0_32, if_neg (by decide +kernel : ¬ nI 23 = nI 0), if_neg (by decide +kernel : ¬ nI 23 = nI 1), if_neg (by decide +kernel : ¬ nI 23 = nI 2), if_neg (by decide +kernel : ¬ nI 23 = nI 3), if_neg (by decide +kernel : ¬ nI 23 = nI 4), if_neg (by decide +kernel : ¬ nI 23 = nI 5), if_neg (by decide +kernel : ¬ nI 23 = nI 6), if_neg (by decide +kernel : ¬ nI 23 = nI 7), if_neg (by decide +kernel : ¬ nI 23 = nI 8), if_neg (by decide +kernel : ¬ nI 23 = nI 9), if_neg (by decide +kernel : ¬ nI 23 = nI 10), if_neg (by decide +kernel : ¬ nI 23 = nI 11), if_neg (by decide +kernel : ¬ nI 23 = nI 12), if_neg (by decide +kernel : ¬ nI 23 = nI 13), if_neg (by decide +kernel : ¬ nI 23 = nI 14), if_neg (by decide +kernel : ¬ nI 23 = nI 15), if_neg (by decide +kernel : ¬ nI 23 = nI 16), if_neg (by decide +kernel : ¬ nI 23 = nI 17), if_neg (by decide +kernel : ¬ nI 23 = nI 18), if_neg (by decide +kernel : ¬ nI 23 = nI 19), if_neg (by decide +kernel : ¬ nI 23 = nI 20), if_neg (by decide +kernel : ¬ nI 23 = nI 21), if_neg (by decide +kernel : ¬ nI 23 = nI 22), if_pos rfl]
    exact e
  · have q : (nI 24 = nI 24) = True := eq_self _
    obtain ⟨S', σ', e, h⟩ := lx_24 (u := u) hc hm hO hN h4 h256
    refine ⟨S', σ', ?_, h⟩
    rw [s0_32, if_neg (by decide +kernel : ¬ nI 24 = nI 0), if_neg (by decide +kernel : ¬ nI 24 = nI 1), if_neg (by decide +kernel : ¬ nI 24 = nI 2), if_neg (by decide +kernel : ¬ nI 24 = nI 3), if_neg (by decide +kernel : ¬ nI 24 = nI 4), if_neg (by decide +kernel : ¬ nI 24 = nI 5), if_neg (by decide +kernel : ¬ nI 24 = nI 6), if_neg (by decide +kernel : ¬ nI 24 = nI 7), if_neg (by decide +kernel : ¬ nI 24 = nI 8), if_neg (by decide +kernel : ¬ nI 24 = nI 9), if_neg (by decide +kernel : ¬ nI 24 = nI 10), if_neg (by decide +kernel : ¬ nI 24 = nI 11), if_neg (by decide +kernel : ¬ nI 24 = nI 12), if_neg (by decide +kernel : ¬ nI 24 = nI 13), if_neg (by decide +kernel : ¬ nI 24 = nI 14), if_neg (by decide +kernel : ¬ nI 24 = nI 15), if_neg (by decide +kernel : ¬ nI 24 = nI 16), if_neg (by decide +kernel : ¬ nI 24 = nI 17), if_neg (by decide +kernel : ¬ nI 24 = nI 18), if_neg (by decide +kernel : ¬ nI 24 = nI 19), if_neg (by decide +kernel : ¬ nI 24 = nI 20), if_neg (by decide +kernel : ¬ nI 24 = nI 21), if_neg (by decide +kernel : ¬ nI 24 = nI 22), if_neg (by decide +kernel : ¬ nI 24 = nI 23), if_pos rfl]
    exact e
  · have q : (nI 25 = nI 25) = True := eq_self _
    obtain ⟨S', σ', e, h⟩ := lx_25 (u := u) hc hm hO hN h4 h256
    refine ⟨S', σ', ?_, h⟩
    rw [s0_32, if_neg (by decide +kernel : ¬ nI 25 = nI 0), if_neg (by decide +kernel : ¬ nI 25 = nI 1), if_neg (by decide +kernel : ¬ nI 25 = nI 2), if_neg (by decide +kernel : ¬ nI 25 = nI 3), if_neg (by decide +kernel : ¬ nI 25 = nI 4), if_neg (by decide +kernel : ¬ nI 25 = nI 5), if_neg (by decide +kernel : ¬ nI 25 = nI 6), if_neg (by decide +kernel : ¬ nI 25 = nI 7), if_neg (by decide +kernel : ¬ nI 25 = nI 8), if_neg (by decide +kernel : ¬ nI 25 = nI 9), if_neg (by decide +kernel : ¬ nI 25 = nI 10), if_neg (by decide +kernel : ¬ nI 25 = nI 11), if_neg (by decide +kernel : ¬ nI 25 = nI 12), if_neg (by decide +kernel : ¬ nI 25 = nI 13), if_neg (by decide +kernel : ¬ nI 25 = nI 14), if_neg (by decide +kernel : ¬ nI 25 = nI 15), if_neg (by decide +kernel : ¬ nI 25 = nI 16), if_neg (by decide +kernel : ¬ nI 25 = nI 17), if_neg (by decide +kernel : ¬ nI 25 = nI 18), if_neg (by decide +kernel : ¬ nI 25 = nI 19), if_neg (by decide +kernel : ¬ nI 25 = nI 20), if_neg (by decide +kernel : ¬ nI 25 = nI 21), if_neg (by decide +kernel : ¬ nI 25 = nI 22), if_neg (by decide +kernel : ¬ nI 25 = nI 23), if_neg (by decide +kernel : ¬ nI 25 = nI 24), if_pos rfl]
    exact e
  · have q : (nI 26 = nI 26) = True := eq_self _
    obtain ⟨S', σ', e, h⟩ := lx_26 (u := u) hc hm hO hN h4 h256
    refine ⟨S', σ', ?_, h⟩
    rw [s0_32, if_neg (by decide +kernel : ¬ nI 26 = nI 0), if_neg (by decide +kernel : ¬ nI 26 = nI 1), if_neg (by decide +kernel : ¬ nI 26 = nI 2), if_neg (by decide +kernel : ¬ nI 26 = nI 3), if_neg (by decide +kernel : ¬ nI 26 = nI 4), if_neg (by decide +kernel : ¬ nI 26 = nI 5), if_neg (by decide +kernel : ¬ nI 26 = nI 6), if_neg (by decide +kernel : ¬ nI 26 = nI 7), if_neg (by decide +kernel : ¬ nI 26 = nI 8), if_neg (by decide +kernel : ¬ nI 26 = nI 9), if_neg (by decide +kernel : ¬ nI 26 = nI 10), if_neg (by decide +kernel : ¬ nI 26 = nI 11), if_neg (by decide +kernel : ¬ nI 26 = nI 12), if_neg (by decide +kernel : ¬ nI 26 = nI 13), if_neg (by decide +kernel : ¬ nI 26 = nI 14), if_neg (by decide +kernel : ¬ nI 26 = nI 15), if_neg (by decide +kernel : ¬ nI 26 = nI 16), if_neg (by decide +kernel : ¬ nI 26 = nI 17), if_neg (by decide +kernel : ¬ nI 26 = nI 18), if_neg (by decide +kernel : ¬ nI 26 = nI 19), if_neg (by decide +kernel : ¬ nI 26 = nI 20), if_neg (by decide +kernel : ¬ nI 26 = nI 21), if_neg (by decide +kernel : ¬ nI 26 = nI 22), if_neg (by decide +kernel : ¬ nI 26 = nI 23), if_neg (by decide +kernel : ¬ nI 26 = nI 24), if_neg (by decide +kernel : ¬ nI 26 = nI 25), if_pos rfl]
    exact e
  · have q : (nI 27 = nI 27) = True := eq_self _
    obtain ⟨S', σ', e, h⟩ := lx_27 (u := u) hc hm hO hN h4 h256
    refine ⟨S', σ', ?_, h⟩
    rw [s0_32, if_neg (by decide +kernel : ¬ nI 27 = nI 0), if_neg (by decide +kernel : ¬ nI 27 = nI 1), if_neg (by decide +kernel : ¬ nI 27 = nI 2), if_neg (by decide +kernel : ¬ nI 27 = nI 3), if_neg (by decide +kernel : ¬ nI 27 = nI 4), if_neg (by decide +kernel : ¬ nI 27 = nI 5), if_neg (by decide +kernel : ¬ nI 27 = nI 6), if_neg (by decide +kernel : ¬ nI 27 = nI 7), if_neg (by decide +kernel : ¬ nI 27 = nI 8), if_neg (by decide +kernel : ¬ nI 27 = nI 9), if_neg (by decide +kernel : ¬ nI 27 = nI 10), if_neg (by decide +kernel : ¬ nI 27 = nI 11), if_neg (by decide +kernel : ¬ nI 27 = nI 12), if_neg (by decide +kernel : ¬ nI 27 = nI 13), if_neg (by decide +kernel : ¬ nI 27 = nI 14), if_neg (by decide +kernel : ¬ nI 27 = nI 15), if_neg (by decide +kernel : ¬ nI 27 = nI 16), if_neg (by decide +kernel : ¬ nI 27 = nI 17), if_neg (by decide +kernel : ¬ nI 27 = nI 18), if_neg (by decide +kernel : ¬ nI 27 = nI 19), if_neg (by decide +kernel : ¬ nI 27 = nI 20), if_neg (by decide +kernel : ¬ nI 27 = nI 21), if_neg (by decide +kernel : ¬ nI 27 = nI 22), if_neg (by decide +kernel : ¬ nI 27 = nI 23), if_neg (by decide +kernel : ¬ nI 27 = nI 24), if_neg (by decide +kernel : ¬ nI 27 = nI 25), if_neg (by decide +kernel : ¬ nI 27 = nI 26), if_pos rfl]
    exact e
  · have q : (nI 28 = nI 28) = True := eq_self _
    obtain ⟨S', σ', e, h⟩ := lx_28 (u := u) hc hm hO hN h4 h256
    refine ⟨S', σ', ?_, h⟩
    rw [s0_32, if_neg (by decide +kernel : ¬ nI 28 = nI 0), if_neg (by decide +kernel : ¬ nI 28 = nI 1), if_neg (by decide +kernel : ¬ nI 28 = nI 2), if_neg (by decide +kernel : ¬ nI 28 = nI 3), if_neg (by decide +kernel : ¬ nI 28 = nI 4), if_neg (by decide +kernel : ¬ nI 28 = nI 5), if_neg (by decide +kernel : ¬ nI 28 = nI 6), if_neg (by decide +kernel : ¬ nI 28 = nI 7), if_neg (by decide +kernel : ¬ nI 28 = nI 8), if_neg (by decide +kernel : ¬ nI 28 = nI 9), if_neg (by decide +kernel : ¬ nI 28 = nI 10), if_neg (by decide +kernel : ¬ nI 28 = nI 11), if_neg (by decide +kernel : ¬ nI 28 = nI 12), if_neg (by decide +kernel : ¬ nI 28 = nI 13), if_neg (by decide +kernel : ¬ nI 28 = nI 14), if_neg (by decide +kernel : ¬ nI 28 = nI 15), if_neg (by decide +kernel : ¬ nI 28 = nI 16), if_neg (by decide +kernel : ¬ nI 28 = nI 17), if_neg (by decide +kernel : ¬ nI 28 = nI 18), if_neg (by decide +kernel : ¬ nI 28 = nI 19), if_neg (by decide +kernel : ¬ nI 28 = nI 20), if_neg (by decide +kernel : ¬ nI 28 = nI 21), if_neg (by decide +kernel : ¬ nI 28 = nI 22), if_neg (by decide +kernel : ¬ nI 28 = nI 23), if_neg (by decide +kernel : ¬ nI 28 = nI 24), if_neg (by decide +kernel : ¬ nI 28 = nI 25), if_neg (by decide +kernel : ¬ nI 28 = nI 26), if_neg (by decide +kernel : ¬ nI 28 = nI 27), if_pos rfl]
    exact e
  · refine ⟨S, σ, ?_, hc, hm, sOK_up hO⟩
    rw [s0_32, if_neg (by decide +kernel : ¬ nI 29 = nI 0), if_neg (by decide +kernel : ¬ nI 29 = nI 1), if_neg (by decide +kernel : ¬ nI 29 = nI 2), if_neg (by decide +kernel : ¬ nI 29 = nI 3), if_neg (by decide +kernel : ¬ nI 29 = nI 4), if_neg (by decide +kernel : ¬ nI 29 = nI 5), if_neg (by decide +kernel : ¬ nI 29 = nI 6), if_neg (by decide +kernel : ¬ nI 29 = nI 7), if_neg (by decide +kernel : ¬ nI 29 = nI 8), if_neg (by decide +kernel : ¬ nI 29 = nI 9), if_neg (by decide +kernel : ¬ nI 29 = nI 10), if_neg (by decide +kernel : ¬ nI 29 = nI 11), if_neg (by decide +kernel : ¬ nI 29 = nI 12), if_neg (by decide +kernel : ¬ nI 29 = nI 13), if_neg (by decide +kernel : ¬ nI 29 = nI 14), if_neg (by decide +kernel : ¬ nI 29 = nI 15), if_neg (by decide +kernel : ¬ nI 29 = nI 16), if_neg (by decide +kernel : ¬ nI 29 = nI 17), if_neg (by decide +kernel : ¬ nI 29 = nI 18), if_neg (by decide +kernel : ¬ nI 29 = nI 19), if_neg (by decide +kernel : ¬ nI 29 = nI 20), if_neg (by decide +kernel : ¬ nI 29 = nI 21), if_neg (by decide +kernel : ¬ nI 29 = nI 22), if_neg (by decide +kernel : ¬ nI 29 = nI 23), if_neg (by decide +kernel : ¬ nI 29 = nI 24), if_neg (by decide +kernel : ¬ nI 29 = nI 25), if_neg (by decide +kernel : ¬ nI 29 = nI 26), if_neg (by decide +kernel : ¬ nI 29 = nI 27), if_neg (by decide +kernel : ¬ nI 29 = nI 28)]
  · refine ⟨S, σ, ?_, hc, hm, sOK_up hO⟩
    rw [s0_32, if_neg (by decide +kernel : ¬ nI 30 = nI 0), if_neg (by decide +kernel : ¬ nI 30 = nI 1), if_neg (by decide +kernel : ¬ nI 30 = nI 2), if_neg (by decide +kernel : ¬ nI 30 = nI 3), if_neg (by decide +kernel : ¬ nI 30 = nI 4), if_neg (by decide +kernel : ¬ nI 30 = nI 5), if_neg (by decide +kernel : ¬ nI 30 = nI 6), if_neg (by decide +kernel : ¬ nI 30 = nI 7), if_neg (by decide +kernel : ¬ nI 30 = nI 8), if_neg (by decide +kernel : ¬ nI 30 = nI 9), if_neg (by decide +kernel : ¬ nI 30 = nI 10), if_neg (by decide +kernel : ¬ nI 30 = nI 11), if_neg (by decide +kernel : ¬ nI 30 = nI 12), if_neg (by decide +kernel : ¬ nI 30 = nI 13), if_neg (by decide +kernel : ¬ nI 30 = nI 14), if_neg (by decide +kernel : ¬ nI 30 = nI 15), if_neg (by decide +kernel : ¬ nI 30 = nI 16), if_neg (by decide +kernel : ¬ nI 30 = nI 17), if_neg (by decide +kernel : ¬ nI 30 = nI 18), if_neg (by decide +kernel : ¬ nI 30 = nI 19), if_neg (by decide +kernel : ¬ nI 30 = nI 20), if_neg (by decide +kernel : ¬ nI 30 = nI 21), if_neg (by decide +kernel : ¬ nI 30 = nI 22), if_neg (by decide +kernel : ¬ nI 30 = nI 23), if_neg (by decide +kernel : ¬ nI 30 = nI 24), if_neg (by decide +kernel : ¬ nI 30 = nI 25), if_neg (by decide +kernel : ¬ nI 30 = nI 26), if_neg (by decide +kernel : ¬ nI 30 = nI 27), if_neg (by decide +kernel : ¬ nI 30 = nI 28)]
  · refine ⟨S, σ, ?_, hc, hm, sOK_up hO⟩
    rw [s0_32, if_neg (by decide +kernel : ¬ nI 31 = nI 0), if_neg (by decide +kernel : ¬ nI 31 = nI 1), if_neg (by decide +kernel : ¬ nI 31 = nI 2), if_neg (by decide +kernel : ¬ nI 31 = nI 3), if_neg (by decide +kernel : ¬ nI 31 = nI 4), if_neg (by decide +kernel : ¬ nI 31 = nI 5), if_neg (by decide +kernel : ¬ nI 31 = nI 6), if_neg (by decide +kernel : ¬ nI 31 = nI 7), if_neg (by decide +kernel : ¬ nI 31 = nI 8), if_neg (by decide +kernel : ¬ nI 31 = nI 9), if_neg (by decide +kernel : ¬ nI 31 = nI 10), if_neg (by decide +kernel : ¬ nI 31 = nI 11), if_neg (by decide +kernel : ¬ nI 31 = nI 12), if_neg (by decide +kernel : ¬ nI 31 = nI 13), if_neg (by decide +kernel : ¬ nI 31 = nI 14), if_neg (by decide +kernel : ¬ nI 31 = nI 15), if_neg (by decide +kernel : ¬ nI 31 = nI 16), if_neg (by decide +kernel : ¬ nI 31 = nI 17), if_neg (by decide +kernel : ¬ nI 31 = nI 18), if_neg (by decide +kernel : ¬ nI 31 = nI 19), if_neg (by decide +kernel : ¬ nI 31 = nI 20), if_neg (by decide +kernel : ¬ nI 31 = nI 21), if_neg (by decide +kernel : ¬ nI 31 = nI 22), if_neg (by decide +kernel : ¬ nI 31 = nI 23), if_neg (by decide +kernel : ¬ nI 31 = nI 24), if_neg (by decide +kernel : ¬ nI 31 = nI 25), if_neg (by decide +kernel : ¬ nI 31 = nI 26), if_neg (by decide +kernel : ¬ nI 31 = nI 27), if_neg (by decide +kernel : ¬ nI 31 = nI 28)]
theorem lx_end (h : X.2 < i + 4) (hi : i ≤ 1000) : am_w X 10 0 18 [some (.double u), some (.ref (0 : Nat)), some (.ref (66 : Nat)), some (.int (nI i))] [] σ = some (some (.int (nI 1)), σ) := by
  have q : (nI X.2 - nI 4 < nI i) = True := by
    refine eq_true ?_
    by_cases c : X.2 < 4
    · have h1 : nI X.2 - nI 4 < 0 := pk_sneg (by decide) c
      exact Int32.lt_of_lt_of_le h1 (nI_pos' (by omega))
    · rw [pk_sub (by omega)]
      exact nI_lt (by omega) (by omega)
  have q0 : Int32.ofNat X.2 = nI X.2 := rfl
  rw [s0_18, s0_19, s0_20, s0_21, s0_22, s0_23, q0, if_pos (of_eq_true q), s0_964, s0_965 (Or.inr rfl)]
theorem lx_loop (h256 : X.2 ≤ 256) : ∀ n i N S σ, cRep S σ → mRep S σ → sOK N S → N + n ≤ 1000 → X.2 < i + 4 + 4 * n → i ≤ 1000 → ∃ σ', am_w X 10 0 18 [some (.double u), some (.ref (0 : Nat)), some (.ref (66 : Nat)), some (.int (nI i))] [] σ = some (some (.int (nI 1)), σ') ∧ am_F σ' := by
  intro n
  induction n with
  | zero => intro i N S σ hc hm hO hN hX hi; exact ⟨σ, lx_end (by omega) hi, hc.1⟩
  | succ n ih =>
    intro i N S σ hc hm hO hN hX hi
    by_cases c : X.2 < i + 4
    · exact ⟨σ, lx_end c hi, hc.1⟩
    · have h4 : i + 4 ≤ X.2 := by omega
      obtain ⟨j, hj, ej⟩ := pk_andE (X.1 i) (m := nI 31) 5 (by decide +kernel)
      obtain ⟨S', σ', e, hc', hm', hO'⟩ := lx_step (u := u) hc hm hO (by omega) h4 h256 j hj
      obtain ⟨σ2, e2, hF⟩ := ih (i + 4) (N + 1) S' σ' hc' hm' hO' (by omega) (by omega) (by omega)
      refine ⟨σ2, ?_, hF⟩
      have q : ¬ nI X.2 - nI 4 < nI i := by
        rw [pk_sub (by omega)]
        exact fun q => absurd ((nI_ltI (by omega) (by omega)).mp q) (by omega)
      have q0 : Int32.ofNat X.2 = nI X.2 := rfl
      have hx : (!decide (nI i < 0) && decide ((nI i).toNatClampNeg < X.2)) = true := lx_ix (k := 0) h4 (by decide) h256
      have cx : (nI i).toNatClampNeg = i := nI_clamp (by omega)
      rw [s0_18, s0_19, s0_20, s0_21, s0_22, s0_23, q0, if_neg q, s0_26, s0_27, s0_28 hx, cx, s0_29, s0_31, ej, e, s0_958, nI_add, s0_961]
      exact e2
end LW
/-- the law's run answers true -/
theorem law_run (X : am_X) {u : UInt64} (h : X.2 ≤ 256) : ∃ σ', am_w X 10 0 0 [some (.double u), none, none, none] [] (am_qm ([], [], [])) = some (some (.int (nI 1)), σ') ∧ am_F σ' := by
  obtain ⟨σ, e, hc, hm⟩ := law_0 X (u := u)
  rw [e]
  exact lx_loop h 65 0 0 sZ σ hc hm sZ_ok (by decide) (by omega) (by decide)
