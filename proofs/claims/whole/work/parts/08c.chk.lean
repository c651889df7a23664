theorem am_all_and {α : Type} {l : List α} {f g : α → Bool} (h1 : l.all f = true) (h2 : l.all g = true) : (l.all fun q => f q && g q) = true := by
  rw [List.all_eq_true] at h1 h2 ⊢
  intro q hq
  rw [h1 q hq, h2 q hq]
  rfl
theorem am_q0 : am_chkR am_r0 = true := by
  show (am_c0.all fun q => am_dec cL_law q.1 q.2.1 && (am_chkI yL_law.cls yL_law.name q.1 q.2.1 q.2.2 && am_chkT (some .boolean) q.2.1)) = true
  unfold am_c0
  simp only [List.all_append, am_all_and am_e0_0 am_f0_0, am_all_and am_e0_1 am_f0_1, am_all_and am_e0_2 am_f0_2, am_all_and am_e0_3 am_f0_3, am_all_and am_e0_4 am_f0_4, am_all_and am_e0_5 am_f0_5, am_all_and am_e0_6 am_f0_6, am_all_and am_e0_7 am_f0_7, am_all_and am_e0_8 am_f0_8, am_all_and am_e0_9 am_f0_9, am_all_and am_e0_10 am_f0_10, Bool.and_self]
theorem am_Q_0 : am_Ts_0.all am_chkR = true := by
  unfold am_Ts_0
  simp only [List.all_cons, List.all_nil, Bool.and_self, Bool.and_true, am_q0, am_q1, am_q2, am_q3, am_q4, am_q5, am_q6, am_q7, am_q8, am_q9, am_q10, am_q11, am_q12, am_q13, am_q14, am_q15, am_q16, am_q17, am_q18, am_q19, am_q20, am_q21, am_q22, am_q23, am_q24, am_q25, am_q26, am_q27, am_q28, am_q29, am_q30, am_q31, am_q32, am_q33, am_q34, am_q35, am_q36, am_q37, am_q38, am_q39]
theorem am_Q_1 : am_Ts_1.all am_chkR = true := by
  unfold am_Ts_1
  simp only [List.all_cons, List.all_nil, Bool.and_self, Bool.and_true, am_q40, am_q41, am_q42, am_q43, am_q44, am_q45, am_q46, am_q47, am_q48, am_q49, am_q50, am_q51, am_q52, am_q53, am_q54, am_q55, am_q56, am_q57, am_q58, am_q59, am_q60, am_q61, am_q62, am_q63, am_q64, am_q65, am_q66, am_q67, am_q68, am_q69, am_q70, am_q71, am_q72, am_q73, am_q74, am_q75, am_q76, am_q77, am_q78, am_q79]
theorem am_Q_2 : am_Ts_2.all am_chkR = true := by
  unfold am_Ts_2
  simp only [List.all_cons, List.all_nil, Bool.and_self, Bool.and_true, am_q80, am_q81, am_q82, am_q83, am_q84, am_q85, am_q86, am_q87, am_q88, am_q89, am_q90, am_q91, am_q92, am_q93, am_q94, am_q95, am_q96, am_q97, am_q98, am_q99, am_q100, am_q101, am_q102, am_q103, am_q104, am_q105, am_q106, am_q107, am_q108, am_q109, am_q110, am_q111, am_q112, am_q113, am_q114, am_q115, am_q116, am_q117, am_q118, am_q119]
theorem am_Q_3 : am_Ts_3.all am_chkR = true := by
  unfold am_Ts_3
  simp only [List.all_cons, List.all_nil, Bool.and_self, Bool.and_true, am_q120, am_q121, am_q122, am_q123, am_q124, am_q125, am_q126, am_q127, am_q128, am_q129, am_q130, am_q131, am_q132, am_q133, am_q134, am_q135, am_q136, am_q137, am_q138, am_q139, am_q140, am_q141, am_q142, am_q143, am_q144, am_q145, am_q146, am_q147, am_q148, am_q149, am_q150, am_q151, am_q152, am_q153, am_q154, am_q155, am_q156, am_q157, am_q158, am_q159]
theorem am_Q_4 : am_Ts_4.all am_chkR = true := by
  unfold am_Ts_4
  simp only [List.all_cons, List.all_nil, Bool.and_self, Bool.and_true, am_q160, am_q161, am_q162, am_q163, am_q164, am_q165, am_q166, am_q167, am_q168, am_q169, am_q170, am_q171, am_q172, am_q173, am_q174, am_q175, am_q176, am_q177, am_q178, am_q179, am_q180, am_q181, am_q182, am_q183, am_q184, am_q185, am_q186, am_q187, am_q188, am_q189, am_q190, am_q191, am_q192, am_q193, am_q194, am_q195, am_q196, am_q197, am_q198, am_q199]
theorem am_Q_5 : am_Ts_5.all am_chkR = true := by
  unfold am_Ts_5
  simp only [List.all_cons, List.all_nil, Bool.and_self, Bool.and_true, am_q200, am_q201, am_q202, am_q203, am_q204, am_q205, am_q206, am_q207, am_q208, am_q209, am_q210, am_q211, am_q212, am_q213, am_q214, am_q215, am_q216, am_q217, am_q218]
theorem am_Q : ∀ r ∈ am_Ts, am_chkR r = true := by
  have h : am_Ts.all am_chkR = true := by
    unfold am_Ts
    simp only [List.all_append, Bool.and_self, am_Q_0, am_Q_1, am_Q_2, am_Q_3, am_Q_4, am_Q_5]
  exact List.all_eq_true.mp h
def am_okM (r : am_Row) (p : Nat × List Nat) : Prop := am_chkM r p = true ∧ am_cd r ∈ am_ws
theorem am_cd_in {k : Nat} {r : am_Row} (h : lw_tbl[k]? = some (am_cd r)) : am_cd r ∈ am_ws := List.mem_filter.mpr ⟨List.mem_of_getElem? h, rfl⟩
theorem am_mtd_0 : ∀ z r p, 1 ≤ z → z < 40 → am_Ts[z]? = some r → am_Ps[z]? = some p → am_okM r p := by
  intro z r p h1 h2 hr hp
  have : z = 1 ∨ z = 2 ∨ z = 3 ∨ z = 4 ∨ z = 5 ∨ z = 6 ∨ z = 7 ∨ z = 8 ∨ z = 9 ∨ z = 10 ∨ z = 11 ∨ z = 12 ∨ z = 13 ∨ z = 14 ∨ z = 15 ∨ z = 16 ∨ z = 17 ∨ z = 18 ∨ z = 19 ∨ z = 20 ∨ z = 21 ∨ z = 22 ∨ z = 23 ∨ z = 24 ∨ z = 25 ∨ z = 26 ∨ z = 27 ∨ z = 28 ∨ z = 29 ∨ z = 30 ∨ z = 31 ∨ z = 32 ∨ z = 33 ∨ z = 34 ∨ z = 35 ∨ z = 36 ∨ z = 37 ∨ z = 38 ∨ z = 39 := by omega
  rcases this with rfl | rfl | rfl | rfl | rfl | rfl | rfl | rfl | rfl | rfl | rfl | rfl | rfl | rfl | rfl | rfl | rfl | rfl | rfl | rfl | rfl | rfl | rfl | rfl | rfl | rfl | rfl | rfl | rfl | rfl | rfl | rfl | rfl | rfl | rfl | rfl | rfl | rfl | rfl
  · cases hr; cases hp; exact ⟨am_m1, am_cd_in am_d1⟩
  · cases hr; cases hp; exact ⟨am_m2, am_cd_in am_d2⟩
  · cases hr; cases hp; exact ⟨am_m3, am_cd_in am_d3⟩
  · cases hr; cases hp; exact ⟨am_m4, am_cd_in am_d4⟩
  · cases hr; cases hp; exact ⟨am_m5, am_cd_in am_d5⟩
  · cases hr; cases hp; exact ⟨am_m6, am_cd_in am_d6⟩
  · cases hr; cases hp; exact ⟨am_m7, am_cd_in am_d7⟩
  · cases hr; cases hp; exact ⟨am_m8, am_cd_in am_d8⟩
  · cases hr; cases hp; exact ⟨am_m9, am_cd_in am_d9⟩
  · cases hr; cases hp; exact ⟨am_m10, am_cd_in am_d10⟩
  · cases hr; cases hp; exact ⟨am_m11, am_cd_in am_d11⟩
  · cases hr; cases hp; exact ⟨am_m12, am_cd_in am_d12⟩
  · cases hr; cases hp; exact ⟨am_m13, am_cd_in am_d13⟩
  · cases hr; cases hp; exact ⟨am_m14, am_cd_in am_d14⟩
  · cases hr; cases hp; exact ⟨am_m15, am_cd_in am_d15⟩
  · cases hr; cases hp; exact ⟨am_m16, am_cd_in am_d16⟩
  · cases hr; cases hp; exact ⟨am_m17, am_cd_in am_d17⟩
  · cases hr; cases hp; exact ⟨am_m18, am_cd_in am_d18⟩
  · cases hr; cases hp; exact ⟨am_m19, am_cd_in am_d19⟩
  · cases hr; cases hp; exact ⟨am_m20, am_cd_in am_d20⟩
  · cases hr; cases hp; exact ⟨am_m21, am_cd_in am_d21⟩
  · cases hr; cases hp; exact ⟨am_m22, am_cd_in am_d22⟩
  · cases hr; cases hp; exact ⟨am_m23, am_cd_in am_d23⟩
  · cases hr; cases hp; exact ⟨am_m24, am_cd_in am_d24⟩
  · cases hr; cases hp; exact ⟨am_m25, am_cd_in am_d25⟩
  · cases hr; cases hp; exact ⟨am_m26, am_cd_in am_d26⟩
  · cases hr; cases hp; exact ⟨am_m27, am_cd_in am_d27⟩
  · cases hr; cases hp; exact ⟨am_m28, am_cd_in am_d28⟩
  · cases hr; cases hp; exact ⟨am_m29, am_cd_in am_d29⟩
  · cases hr; cases hp; exact ⟨am_m30, am_cd_in am_d30⟩
  · cases hr; cases hp; exact ⟨am_m31, am_cd_in am_d31⟩
  · cases hr; cases hp; exact ⟨am_m32, am_cd_in am_d32⟩
  · cases hr; cases hp; exact ⟨am_m33, am_cd_in am_d33⟩
  · cases hr; cases hp; exact ⟨am_m34, am_cd_in am_d34⟩
  · cases hr; cases hp; exact ⟨am_m35, am_cd_in am_d35⟩
  · cases hr; cases hp; exact ⟨am_m36, am_cd_in am_d36⟩
  · cases hr; cases hp; exact ⟨am_m37, am_cd_in am_d37⟩
  · cases hr; cases hp; exact ⟨am_m38, am_cd_in am_d38⟩
  · cases hr; cases hp; exact ⟨am_m39, am_cd_in am_d39⟩
theorem am_mtd_1 : ∀ z r p, 40 ≤ z → z < 80 → am_Ts[z]? = some r → am_Ps[z]? = some p → am_okM r p := by
  intro z r p h1 h2 hr hp
  have : z = 40 ∨ z = 41 ∨ z = 42 ∨ z = 43 ∨ z = 44 ∨ z = 45 ∨ z = 46 ∨ z = 47 ∨ z = 48 ∨ z = 49 ∨ z = 50 ∨ z = 51 ∨ z = 52 ∨ z = 53 ∨ z = 54 ∨ z = 55 ∨ z = 56 ∨ z = 57 ∨ z = 58 ∨ z = 59 ∨ z = 60 ∨ z = 61 ∨ z = 62 ∨ z = 63 ∨ z = 64 ∨ z = 65 ∨ z = 66 ∨ z = 67 ∨ z = 68 ∨ z = 69 ∨ z = 70 ∨ z = 71 ∨ z = 72 ∨ z = 73 ∨ z = 74 ∨ z = 75 ∨ z = 76 ∨ z = 77 ∨ z = 78 ∨ z = 79 := by omega
  rcases this with rfl | rfl | rfl | rfl | rfl | rfl | rfl | rfl | rfl | rfl | rfl | rfl | rfl | rfl | rfl | rfl | rfl | rfl | rfl | rfl | rfl | rfl | rfl | rfl | rfl | rfl | rfl | rfl | rfl | rfl | rfl | rfl | rfl | rfl | rfl | rfl | rfl | rfl | rfl | rfl
  · cases hr; cases hp; exact ⟨am_m40, am_cd_in am_d40⟩
  · cases hr; cases hp; exact ⟨am_m41, am_cd_in am_d41⟩
  · cases hr; cases hp; exact ⟨am_m42, am_cd_in am_d42⟩
  · cases hr; cases hp; exact ⟨am_m43, am_cd_in am_d43⟩
  · cases hr; cases hp; exact ⟨am_m44, am_cd_in am_d44⟩
  · cases hr; cases hp; exact ⟨am_m45, am_cd_in am_d45⟩
  · cases hr; cases hp; exact ⟨am_m46, am_cd_in am_d46⟩
  · cases hr; cases hp; exact ⟨am_m47, am_cd_in am_d47⟩
  · cases hr; cases hp; exact ⟨am_m48, am_cd_in am_d48⟩
  · cases hr; cases hp; exact ⟨am_m49, am_cd_in am_d49⟩
  · cases hr; cases hp; exact ⟨am_m50, am_cd_in am_d50⟩
  · cases hr; cases hp; exact ⟨am_m51, am_cd_in am_d51⟩
  · cases hr; cases hp; exact ⟨am_m52, am_cd_in am_d52⟩
  · cases hr; cases hp; exact ⟨am_m53, am_cd_in am_d53⟩
  · cases hr; cases hp; exact ⟨am_m54, am_cd_in am_d54⟩
  · cases hr; cases hp; exact ⟨am_m55, am_cd_in am_d55⟩
  · cases hr; cases hp; exact ⟨am_m56, am_cd_in am_d56⟩
  · cases hr; cases hp; exact ⟨am_m57, am_cd_in am_d57⟩
  · cases hr; cases hp; exact ⟨am_m58, am_cd_in am_d58⟩
  · cases hr; cases hp; exact ⟨am_m59, am_cd_in am_d59⟩
  · cases hr; cases hp; exact ⟨am_m60, am_cd_in am_d60⟩
  · cases hr; cases hp; exact ⟨am_m61, am_cd_in am_d61⟩
  · cases hr; cases hp; exact ⟨am_m62, am_cd_in am_d62⟩
  · cases hr; cases hp; exact ⟨am_m63, am_cd_in am_d63⟩
  · cases hr; cases hp; exact ⟨am_m64, am_cd_in am_d64⟩
  · cases hr; cases hp; exact ⟨am_m65, am_cd_in am_d65⟩
  · cases hr; cases hp; exact ⟨am_m66, am_cd_in am_d66⟩
  · cases hr; cases hp; exact ⟨am_m67, am_cd_in am_d67⟩
  · cases hr; cases hp; exact ⟨am_m68, am_cd_in am_d68⟩
  · cases hr; cases hp; exact ⟨am_m69, am_cd_in am_d69⟩
  · cases hr; cases hp; exact ⟨am_m70, am_cd_in am_d70⟩
  · cases hr; cases hp; exact ⟨am_m71, am_cd_in am_d71⟩
  · cases hr; cases hp; exact ⟨am_m72, am_cd_in am_d72⟩
  · cases hr; cases hp; exact ⟨am_m73, am_cd_in am_d73⟩
  · cases hr; cases hp; exact ⟨am_m74, am_cd_in am_d74⟩
  · cases hr; cases hp; exact ⟨am_m75, am_cd_in am_d75⟩
  · cases hr; cases hp; exact ⟨am_m76, am_cd_in am_d76⟩
  · cases hr; cases hp; exact ⟨am_m77, am_cd_in am_d77⟩
  · cases hr; cases hp; exact ⟨am_m78, am_cd_in am_d78⟩
  · cases hr; cases hp; exact ⟨am_m79, am_cd_in am_d79⟩
theorem am_mtd_2 : ∀ z r p, 80 ≤ z → z < 120 → am_Ts[z]? = some r → am_Ps[z]? = some p → am_okM r p := by
  intro z r p h1 h2 hr hp
  have : z = 80 ∨ z = 81 ∨ z = 82 ∨ z = 83 ∨ z = 84 ∨ z = 85 ∨ z = 86 ∨ z = 87 ∨ z = 88 ∨ z = 89 ∨ z = 90 ∨ z = 91 ∨ z = 92 ∨ z = 93 ∨ z = 94 ∨ z = 95 ∨ z = 96 ∨ z = 97 ∨ z = 98 ∨ z = 99 ∨ z = 100 ∨ z = 101 ∨ z = 102 ∨ z = 103 ∨ z = 104 ∨ z = 105 ∨ z = 106 ∨ z = 107 ∨ z = 108 ∨ z = 109 ∨ z = 110 ∨ z = 111 ∨ z = 112 ∨ z = 113 ∨ z = 114 ∨ z = 115 ∨ z = 116 ∨ z = 117 ∨ z = 118 ∨ z = 119 := by omega
  rcases this with rfl | rfl | rfl | rfl | rfl | rfl | rfl | rfl | rfl | rfl | rfl | rfl | rfl | rfl | rfl | rfl | rfl | rfl | rfl | rfl | rfl | rfl | rfl | rfl | rfl | rfl | rfl | rfl | rfl | rfl | rfl | rfl | rfl | rfl | rfl | rfl | rfl | rfl | rfl | rfl
  · cases hr; cases hp; exact ⟨am_m80, am_cd_in am_d80⟩
  · cases hr; cases hp; exact ⟨am_m81, am_cd_in am_d81⟩
  · cases hr; cases hp; exact ⟨am_m82, am_cd_in am_d82⟩
  · cases hr; cases hp; exact ⟨am_m83, am_cd_in am_d83⟩
  · cases hr; cases hp; exact ⟨am_m84, am_cd_in am_d84⟩
  · cases hr; cases hp; exact ⟨am_m85, am_cd_in am_d85⟩
  · cases hr; cases hp; exact ⟨am_m86, am_cd_in am_d86⟩
  · cases hr; cases hp; exact ⟨am_m87, am_cd_in am_d87⟩
  · cases hr; cases hp; exact ⟨am_m88, am_cd_in am_d88⟩
  · cases hr; cases hp; exact ⟨am_m89, am_cd_in am_d89⟩
  · cases hr; cases hp; exact ⟨am_m90, am_cd_in am_d90⟩
  · cases hr; cases hp; exact ⟨am_m91, am_cd_in am_d91⟩
  · cases hr; cases hp; exact ⟨am_m92, am_cd_in am_d92⟩
  · cases hr; cases hp; exact ⟨am_m93, am_cd_in am_d93⟩
  · cases hr; cases hp; exact ⟨am_m94, am_cd_in am_d94⟩
  · cases hr; cases hp; exact ⟨am_m95, am_cd_in am_d95⟩
  · cases hr; cases hp; exact ⟨am_m96, am_cd_in am_d96⟩
  · cases hr; cases hp; exact ⟨am_m97, am_cd_in am_d97⟩
  · cases hr; cases hp; exact ⟨am_m98, am_cd_in am_d98⟩
  · cases hr; cases hp; exact ⟨am_m99, am_cd_in am_d99⟩
  · cases hr; cases hp; exact ⟨am_m100, am_cd_in am_d100⟩
  · cases hr; cases hp; exact ⟨am_m101, am_cd_in am_d101⟩
  · cases hr; cases hp; exact ⟨am_m102, am_cd_in am_d102⟩
  · cases hr; cases hp; exact ⟨am_m103, am_cd_in am_d103⟩
  · cases hr; cases hp; exact ⟨am_m104, am_cd_in am_d104⟩
  · cases hr; cases hp; exact ⟨am_m105, am_cd_in am_d105⟩
  · cases hr; cases hp; exact ⟨am_m106, am_cd_in am_d106⟩
  · cases hr; cases hp; exact ⟨am_m107, am_cd_in am_d107⟩
  · cases hr; cases hp; exact ⟨am_m108, am_cd_in am_d108⟩
  · cases hr; cases hp; exact ⟨am_m109, am_cd_in am_d109⟩
  · cases hr; cases hp; exact ⟨am_m110, am_cd_in am_d110⟩
  · cases hr; cases hp; exact ⟨am_m111, am_cd_in am_d111⟩
  · cases hr; cases hp; exact ⟨am_m112, am_cd_in am_d112⟩
  · cases hr; cases hp; exact ⟨am_m113, am_cd_in am_d113⟩
  · cases hr; cases hp; exact ⟨am_m114, am_cd_in am_d114⟩
  · cases hr; cases hp; exact ⟨am_m115, am_cd_in am_d115⟩
  · cases hr; cases hp; exact ⟨am_m116, am_cd_in am_d116⟩
  · cases hr; cases hp; exact ⟨am_m117, am_cd_in am_d117⟩
  · cases hr; cases hp; exact ⟨am_m118, am_cd_in am_d118⟩
  · cases hr; cases hp; exact ⟨am_m119, am_cd_in am_d119⟩
theorem am_mtd_3 : ∀ z r p, 120 ≤ z → z < 160 → am_Ts[z]? = some r → am_Ps[z]? = some p → am_okM r p := by
  intro z r p h1 h2 hr hp
  have : z = 120 ∨ z = 121 ∨ z = 122 ∨ z = 123 ∨ z = 124 ∨ z = 125 ∨ z = 126 ∨ z = 127 ∨ z = 128 ∨ z = 129 ∨ z = 130 ∨ z = 131 ∨ z = 132 ∨ z = 133 ∨ z = 134 ∨ z = 135 ∨ z = 136 ∨ z = 137 ∨ z = 138 ∨ z = 139 ∨ z = 140 ∨ z = 141 ∨ z = 142 ∨ z = 143 ∨ z = 144 ∨ z = 145 ∨ z = 146 ∨ z = 147 ∨ z = 148 ∨ z = 149 ∨ z = 150 ∨ z = 151 ∨ z = 152 ∨ z = 153 ∨ z = 154 ∨ z = 155 ∨ z = 156 ∨ z = 157 ∨ z = 158 ∨ z = 159 := by omega
  rcases this with rfl | rfl | rfl | rfl | rfl | rfl | rfl | rfl | rfl | rfl | rfl | rfl | rfl | rfl | rfl | rfl | rfl | rfl | rfl | rfl | rfl | rfl | rfl | rfl | rfl | rfl | rfl | rfl | rfl | rfl | rfl | rfl | rfl | rfl | rfl | rfl | rfl | rfl | rfl | rfl
  · cases hr; cases hp; exact ⟨am_m120, am_cd_in am_d120⟩
  · cases hr; cases hp; exact ⟨am_m121, am_cd_in am_d121⟩
  · cases hr; cases hp; exact ⟨am_m122, am_cd_in am_d122⟩
  · cases hr; cases hp; exact ⟨am_m123, am_cd_in am_d123⟩
  · cases hr; cases hp; exact ⟨am_m124, am_cd_in am_d124⟩
  · cases hr; cases hp; exact ⟨am_m125, am_cd_in am_d125⟩
  · cases hr; cases hp; exact ⟨am_m126, am_cd_in am_d126⟩
  · cases hr; cases hp; exact ⟨am_m127, am_cd_in am_d127⟩
  · cases hr; cases hp; exact ⟨am_m128, am_cd_in am_d128⟩
  · cases hr; cases hp; exact ⟨am_m129, am_cd_in am_d129⟩
  · cases hr; cases hp; exact ⟨am_m130, am_cd_in am_d130⟩
  · cases hr; cases hp; exact ⟨am_m131, am_cd_in am_d131⟩
  · cases hr; cases hp; exact ⟨am_m132, am_cd_in am_d132⟩
  · cases hr; cases hp; exact ⟨am_m133, am_cd_in am_d133⟩
  · cases hr; cases hp; exact ⟨am_m134, am_cd_in am_d134⟩
  · cases hr; cases hp; exact ⟨am_m135, am_cd_in am_d135⟩
  · cases hr; cases hp; exact ⟨am_m136, am_cd_in am_d136⟩
  · cases hr; cases hp; exact ⟨am_m137, am_cd_in am_d137⟩
  · cases hr; cases hp; exact ⟨am_m138, am_cd_in am_d138⟩
  · cases hr; cases hp; exact ⟨am_m139, am_cd_in am_d139⟩
  · cases hr; cases hp; exact ⟨am_m140, am_cd_in am_d140⟩
  · cases hr; cases hp; exact ⟨am_m141, am_cd_in am_d141⟩
  · cases hr; cases hp; exact ⟨am_m142, am_cd_in am_d142⟩
  · cases hr; cases hp; exact ⟨am_m143, am_cd_in am_d143⟩
  · cases hr; cases hp; exact ⟨am_m144, am_cd_in am_d144⟩
  · cases hr; cases hp; exact ⟨am_m145, am_cd_in am_d145⟩
  · cases hr; cases hp; exact ⟨am_m146, am_cd_in am_d146⟩
  · cases hr; cases hp; exact ⟨am_m147, am_cd_in am_d147⟩
  · cases hr; cases hp; exact ⟨am_m148, am_cd_in am_d148⟩
  · cases hr; cases hp; exact ⟨am_m149, am_cd_in am_d149⟩
  · cases hr; cases hp; exact ⟨am_m150, am_cd_in am_d150⟩
  · cases hr; cases hp; exact ⟨am_m151, am_cd_in am_d151⟩
  · cases hr; cases hp; exact ⟨am_m152, am_cd_in am_d152⟩
  · cases hr; cases hp; exact ⟨am_m153, am_cd_in am_d153⟩
  · cases hr; cases hp; exact ⟨am_m154, am_cd_in am_d154⟩
  · cases hr; cases hp; exact ⟨am_m155, am_cd_in am_d155⟩
  · cases hr; cases hp; exact ⟨am_m156, am_cd_in am_d156⟩
  · cases hr; cases hp; exact ⟨am_m157, am_cd_in am_d157⟩
  · cases hr; cases hp; exact ⟨am_m158, am_cd_in am_d158⟩
  · cases hr; cases hp; exact ⟨am_m159, am_cd_in am_d159⟩
theorem am_mtd_4 : ∀ z r p, 160 ≤ z → z < 200 → am_Ts[z]? = some r → am_Ps[z]? = some p → am_okM r p := by
  intro z r p h1 h2 hr hp
  have : z = 160 ∨ z = 161 ∨ z = 162 ∨ z = 163 ∨ z = 164 ∨ z = 165 ∨ z = 166 ∨ z = 167 ∨ z = 168 ∨ z = 169 ∨ z = 170 ∨ z = 171 ∨ z = 172 ∨ z = 173 ∨ z = 174 ∨ z = 175 ∨ z = 176 ∨ z = 177 ∨ z = 178 ∨ z = 179 ∨ z = 180 ∨ z = 181 ∨ z = 182 ∨ z = 183 ∨ z = 184 ∨ z = 185 ∨ z = 186 ∨ z = 187 ∨ z = 188 ∨ z = 189 ∨ z = 190 ∨ z = 191 ∨ z = 192 ∨ z = 193 ∨ z = 194 ∨ z = 195 ∨ z = 196 ∨ z = 197 ∨ z = 198 ∨ z = 199 := by omega
  rcases this with rfl | rfl | rfl | rfl | rfl | rfl | rfl | rfl | rfl | rfl | rfl | rfl | rfl | rfl | rfl | rfl | rfl | rfl | rfl | rfl | rfl | rfl | rfl | rfl | rfl | rfl | rfl | rfl | rfl | rfl | rfl | rfl | rfl | rfl | rfl | rfl | rfl | rfl | rfl | rfl
  · cases hr; cases hp; exact ⟨am_m160, am_cd_in am_d160⟩
  · cases hr; cases hp; exact ⟨am_m161, am_cd_in am_d161⟩
  · cases hr; cases hp; exact ⟨am_m162, am_cd_in am_d162⟩
  · cases hr; cases hp; exact ⟨am_m163, am_cd_in am_d163⟩
  · cases hr; cases hp; exact ⟨am_m164, am_cd_in am_d164⟩
  · cases hr; cases hp; exact ⟨am_m165, am_cd_in am_d165⟩
  · cases hr; cases hp; exact ⟨am_m166, am_cd_in am_d166⟩
  · cases hr; cases hp; exact ⟨am_m167, am_cd_in am_d167⟩
  · cases hr; cases hp; exact ⟨am_m168, am_cd_in am_d168⟩
  · cases hr; cases hp; exact ⟨am_m169, am_cd_in am_d169⟩
  · cases hr; cases hp; exact ⟨am_m170, am_cd_in am_d170⟩
  · cases hr; cases hp; exact ⟨am_m171, am_cd_in am_d171⟩
  · cases hr; cases hp; exact ⟨am_m172, am_cd_in am_d172⟩
  · cases hr; cases hp; exact ⟨am_m173, am_cd_in am_d173⟩
  · cases hr; cases hp; exact ⟨am_m174, am_cd_in am_d174⟩
  · cases hr; cases hp; exact ⟨am_m175, am_cd_in am_d175⟩
  · cases hr; cases hp; exact ⟨am_m176, am_cd_in am_d176⟩
  · cases hr; cases hp; exact ⟨am_m177, am_cd_in am_d177⟩
  · cases hr; cases hp; exact ⟨am_m178, am_cd_in am_d178⟩
  · cases hr; cases hp; exact ⟨am_m179, am_cd_in am_d179⟩
  · cases hr; cases hp; exact ⟨am_m180, am_cd_in am_d180⟩
  · cases hr; cases hp; exact ⟨am_m181, am_cd_in am_d181⟩
  · cases hr; cases hp; exact ⟨am_m182, am_cd_in am_d182⟩
  · cases hr; cases hp; exact ⟨am_m183, am_cd_in am_d183⟩
  · cases hr; cases hp; exact ⟨am_m184, am_cd_in am_d184⟩
  · cases hr; cases hp; exact ⟨am_m185, am_cd_in am_d185⟩
  · cases hr; cases hp; exact ⟨am_m186, am_cd_in am_d186⟩
  · cases hr; cases hp; exact ⟨am_m187, am_cd_in am_d187⟩
  · cases hr; cases hp; exact ⟨am_m188, am_cd_in am_d188⟩
  · cases hr; cases hp; exact ⟨am_m189, am_cd_in am_d189⟩
  · cases hr; cases hp; exact ⟨am_m190, am_cd_in am_d190⟩
  · cases hr; cases hp; exact ⟨am_m191, am_cd_in am_d191⟩
  · cases hr; cases hp; exact ⟨am_m192, am_cd_in am_d192⟩
  · cases hr; cases hp; exact ⟨am_m193, am_cd_in am_d193⟩
  · cases hr; cases hp; exact ⟨am_m194, am_cd_in am_d194⟩
  · cases hr; cases hp; exact ⟨am_m195, am_cd_in am_d195⟩
  · cases hr; cases hp; exact ⟨am_m196, am_cd_in am_d196⟩
  · cases hr; cases hp; exact ⟨am_m197, am_cd_in am_d197⟩
  · cases hr; cases hp; exact ⟨am_m198, am_cd_in am_d198⟩
  · cases hr; cases hp; exact ⟨am_m199, am_cd_in am_d199⟩
theorem am_mtd_5 : ∀ z r p, 200 ≤ z → z < 219 → am_Ts[z]? = some r → am_Ps[z]? = some p → am_okM r p := by
  intro z r p h1 h2 hr hp
  have : z = 200 ∨ z = 201 ∨ z = 202 ∨ z = 203 ∨ z = 204 ∨ z = 205 ∨ z = 206 ∨ z = 207 ∨ z = 208 ∨ z = 209 ∨ z = 210 ∨ z = 211 ∨ z = 212 ∨ z = 213 ∨ z = 214 ∨ z = 215 ∨ z = 216 ∨ z = 217 ∨ z = 218 := by omega
  rcases this with rfl | rfl | rfl | rfl | rfl | rfl | rfl | rfl | rfl | rfl | rfl | rfl | rfl | rfl | rfl | rfl | rfl | rfl | rfl
  · cases hr; cases hp; exact ⟨am_m200, am_cd_in am_d200⟩
  · cases hr; cases hp; exact ⟨am_m201, am_cd_in am_d201⟩
  · cases hr; cases hp; exact ⟨am_m202, am_cd_in am_d202⟩
  · cases hr; cases hp; exact ⟨am_m203, am_cd_in am_d203⟩
  · cases hr; cases hp; exact ⟨am_m204, am_cd_in am_d204⟩
  · cases hr; cases hp; exact ⟨am_m205, am_cd_in am_d205⟩
  · cases hr; cases hp; exact ⟨am_m206, am_cd_in am_d206⟩
  · cases hr; cases hp; exact ⟨am_m207, am_cd_in am_d207⟩
  · cases hr; cases hp; exact ⟨am_m208, am_cd_in am_d208⟩
  · cases hr; cases hp; exact ⟨am_m209, am_cd_in am_d209⟩
  · cases hr; cases hp; exact ⟨am_m210, am_cd_in am_d210⟩
  · cases hr; cases hp; exact ⟨am_m211, am_cd_in am_d211⟩
  · cases hr; cases hp; exact ⟨am_m212, am_cd_in am_d212⟩
  · cases hr; cases hp; exact ⟨am_m213, am_cd_in am_d213⟩
  · cases hr; cases hp; exact ⟨am_m214, am_cd_in am_d214⟩
  · cases hr; cases hp; exact ⟨am_m215, am_cd_in am_d215⟩
  · cases hr; cases hp; exact ⟨am_m216, am_cd_in am_d216⟩
  · cases hr; cases hp; exact ⟨am_m217, am_cd_in am_d217⟩
  · cases hr; cases hp; exact ⟨am_m218, am_cd_in am_d218⟩
theorem am_mtd {z : Nat} {r : am_Row} {p : Nat × List Nat} (h0 : 0 < z) (hr : am_Ts[z]? = some r) (hp : am_Ps[z]? = some p) : am_okM r p := by
  have hz : z < 219 := (List.getElem?_eq_some_iff.mp hr).1
  rcases Nat.lt_or_ge z 40 with h0 | h0
  · exact am_mtd_0 z r p (by omega) h0 hr hp
  rcases Nat.lt_or_ge z 80 with h1 | h1
  · exact am_mtd_1 z r p (by omega) h1 hr hp
  rcases Nat.lt_or_ge z 120 with h2 | h2
  · exact am_mtd_2 z r p (by omega) h2 hr hp
  rcases Nat.lt_or_ge z 160 with h3 | h3
  · exact am_mtd_3 z r p (by omega) h3 hr hp
  rcases Nat.lt_or_ge z 200 with h4 | h4
  · exact am_mtd_4 z r p (by omega) h4 hr hp
  exact am_mtd_5 z r p (by omega) hz hr hp
