/-! what the words say of a class of the claim -/
theorem am_lw {C : String} {T : u_T} {N : Nat} {ps : List Nat} (h : ((List.range N).all fun k => am_wd (ps.getD k 0) (u_lay C T k)) = true) : ∀ w ∈ u_ws C T N, w ∈ am_ws := by
  intro w hw
  obtain ⟨k, hk, rfl⟩ := List.mem_map.mp hw
  exact am_wd_in (List.all_eq_true.mp h k hk)
def am_okC (ci : Nat) (q : vw_C) : Prop := (∀ w ∈ u_ws q.1 q.2.1 q.2.2, w ∈ am_ws) ∧ (∃ ty : Nat → FieldType, (∀ k, k < q.2.2 → parseFieldDescriptor (q.2.1 k).2.2.1 = some (ty k)) ∧ ∀ k, k < q.2.2 → defaultValue (ty k) = am_fV 0 ci k (fun _ => 0) (fun _ => 0) (fun _ => none)) ∧ (∀ a, a < q.2.2 → ∀ b, b < q.2.2 → a ≠ b → (q.2.1 a).2.1 ≠ (q.2.1 b).2.1) ∧ Cond.instantiable q.1 q.2.2 ∈ am_ws ∧ Cond.initialized q.1 ∈ am_ws
set_option maxRecDepth 100000 in
theorem am_l0 : ((List.range 3).all fun k => am_wd (([364, 366, 368] : List Nat).getD k 0) (u_lay RX0 TX0 k)) = true := by decide +kernel
set_option maxRecDepth 100000 in
theorem am_i0 : am_wd 353 (.instantiable RX0 3) = true := by decide +kernel
set_option maxRecDepth 100000 in
theorem am_n0 : am_wd 89 (.initialized RX0) = true := by decide +kernel
set_option maxRecDepth 100000 in
theorem am_v0 : ∀ j, j < 3 → defaultValue (tyX0 j) = am_fV 0 0 j (fun _ => 0) (fun _ => 0) (fun _ => none) := by decide +kernel
set_option maxRecDepth 100000 in
theorem am_l1 : ((List.range 6).all fun k => am_wd (([253, 255, 257, 259, 261, 263] : List Nat).getD k 0) (u_lay RX1 TX1 k)) = true := by decide +kernel
set_option maxRecDepth 100000 in
theorem am_i1 : am_wd 227 (.instantiable RX1 6) = true := by decide +kernel
set_option maxRecDepth 100000 in
theorem am_n1 : am_wd 85 (.initialized RX1) = true := by decide +kernel
set_option maxRecDepth 100000 in
theorem am_v1 : ∀ j, j < 6 → defaultValue (tyX1 j) = am_fV 0 1 j (fun _ => 0) (fun _ => 0) (fun _ => none) := by decide +kernel
set_option maxRecDepth 100000 in
theorem am_l2 : ((List.range 5).all fun k => am_wd (([297, 299, 301, 303, 305] : List Nat).getD k 0) (u_lay RX2 TX2 k)) = true := by decide +kernel
set_option maxRecDepth 100000 in
theorem am_i2 : am_wd 287 (.instantiable RX2 5) = true := by decide +kernel
set_option maxRecDepth 100000 in
theorem am_n2 : am_wd 86 (.initialized RX2) = true := by decide +kernel
set_option maxRecDepth 100000 in
theorem am_v2 : ∀ j, j < 5 → defaultValue (tyX2 j) = am_fV 0 2 j (fun _ => 0) (fun _ => 0) (fun _ => none) := by decide +kernel
set_option maxRecDepth 100000 in
theorem am_l3 : ((List.range 3).all fun k => am_wd (([319, 321, 323] : List Nat).getD k 0) (u_lay RX3 TX3 k)) = true := by decide +kernel
set_option maxRecDepth 100000 in
theorem am_i3 : am_wd 309 (.instantiable RX3 3) = true := by decide +kernel
set_option maxRecDepth 100000 in
theorem am_n3 : am_wd 87 (.initialized RX3) = true := by decide +kernel
set_option maxRecDepth 100000 in
theorem am_v3 : ∀ j, j < 3 → defaultValue (tyX3 j) = am_fV 0 3 j (fun _ => 0) (fun _ => 0) (fun _ => none) := by decide +kernel
set_option maxRecDepth 100000 in
theorem am_l4 : ((List.range 2).all fun k => am_wd (([114, 116] : List Nat).getD k 0) (u_lay RX4 TX4 k)) = true := by decide +kernel
set_option maxRecDepth 100000 in
theorem am_i4 : am_wd 104 (.instantiable RX4 2) = true := by decide +kernel
set_option maxRecDepth 100000 in
theorem am_n4 : am_wd 80 (.initialized RX4) = true := by decide +kernel
set_option maxRecDepth 100000 in
theorem am_v4 : ∀ j, j < 2 → defaultValue (tyX4 j) = am_fV 0 4 j (fun _ => 0) (fun _ => 0) (fun _ => none) := by decide +kernel
set_option maxRecDepth 100000 in
theorem am_l5 : ((List.range 5).all fun k => am_wd (([341, 343, 345, 347, 349] : List Nat).getD k 0) (u_lay RX5 TX5 k)) = true := by decide +kernel
set_option maxRecDepth 100000 in
theorem am_i5 : am_wd 327 (.instantiable RX5 5) = true := by decide +kernel
set_option maxRecDepth 100000 in
theorem am_n5 : am_wd 88 (.initialized RX5) = true := by decide +kernel
set_option maxRecDepth 100000 in
theorem am_v5 : ∀ j, j < 5 → defaultValue (tyX5 j) = am_fV 0 5 j (fun _ => 0) (fun _ => 0) (fun _ => none) := by decide +kernel
set_option maxRecDepth 100000 in
theorem am_l6 : ((List.range 4).all fun k => am_wd (([194, 196, 198, 200] : List Nat).getD k 0) (u_lay RX7 TX7 k)) = true := by decide +kernel
set_option maxRecDepth 100000 in
theorem am_i6 : am_wd 184 (.instantiable RX7 4) = true := by decide +kernel
set_option maxRecDepth 100000 in
theorem am_n6 : am_wd 83 (.initialized RX7) = true := by decide +kernel
set_option maxRecDepth 100000 in
theorem am_v6 : ∀ j, j < 4 → defaultValue (tyX7 j) = am_fV 0 6 j (fun _ => 0) (fun _ => 0) (fun _ => none) := by decide +kernel
set_option maxRecDepth 100000 in
theorem am_l7 : ((List.range 4).all fun k => am_wd (([218, 220, 222, 224] : List Nat).getD k 0) (u_lay RX8 TX8 k)) = true := by decide +kernel
set_option maxRecDepth 100000 in
theorem am_i7 : am_wd 204 (.instantiable RX8 4) = true := by decide +kernel
set_option maxRecDepth 100000 in
theorem am_n7 : am_wd 84 (.initialized RX8) = true := by decide +kernel
set_option maxRecDepth 100000 in
theorem am_v7 : ∀ j, j < 4 → defaultValue (tyX8 j) = am_fV 0 7 j (fun _ => 0) (fun _ => 0) (fun _ => none) := by decide +kernel
set_option maxRecDepth 100000 in
theorem am_l8 : ((List.range 14).all fun k => am_wd (([144, 146, 148, 150, 152, 154, 156, 158, 160, 162, 164, 166, 168, 170] : List Nat).getD k 0) (u_lay RX9 TX9 k)) = true := by decide +kernel
set_option maxRecDepth 100000 in
theorem am_i8 : am_wd 121 (.instantiable RX9 14) = true := by decide +kernel
set_option maxRecDepth 100000 in
theorem am_n8 : am_wd 81 (.initialized RX9) = true := by decide +kernel
set_option maxRecDepth 100000 in
theorem am_v8 : ∀ j, j < 14 → defaultValue (tyX9 j) = am_fV 0 8 j (fun _ => 0) (fun _ => 0) (fun _ => none) := by decide +kernel
set_option maxRecDepth 100000 in
theorem am_l9 : ((List.range 4).all fun k => am_wd (([277, 279, 281, 283] : List Nat).getD k 0) (u_lay RX10 TX10 k)) = true := by decide +kernel
set_option maxRecDepth 100000 in
theorem am_i9 : am_wd 174 (.instantiable RX10 4) = true := by decide +kernel
set_option maxRecDepth 100000 in
theorem am_n9 : am_wd 82 (.initialized RX10) = true := by decide +kernel
set_option maxRecDepth 100000 in
theorem am_v9 : ∀ j, j < 4 → defaultValue (tyX10 j) = am_fV 0 9 j (fun _ => 0) (fun _ => 0) (fun _ => none) := by decide +kernel
set_option maxRecDepth 100000 in
theorem am_l10 : ((List.range 11).all fun k => am_wd (([382, 384, 386, 388, 390, 392, 394, 396, 398, 400, 402] : List Nat).getD k 0) (u_lay RX11 TX11 k)) = true := by decide +kernel
set_option maxRecDepth 100000 in
theorem am_i10 : am_wd 96 (.instantiable RX11 11) = true := by decide +kernel
set_option maxRecDepth 100000 in
theorem am_n10 : am_wd 79 (.initialized RX11) = true := by decide +kernel
set_option maxRecDepth 100000 in
theorem am_v10 : ∀ j, j < 11 → defaultValue (tyX11 j) = am_fV 0 10 j (fun _ => 0) (fun _ => 0) (fun _ => none) := by decide +kernel
set_option maxRecDepth 100000 in
theorem am_l11 : ((List.range 57).all fun k => am_wd (([958, 960, 962, 964, 966, 968, 970, 972, 974, 976, 978, 980, 982, 984, 986, 988, 990, 992, 994, 996, 998, 1000, 1002, 1004, 1006, 1008, 1010, 1012, 1014, 1016, 1018, 1020, 1022, 1024, 1026, 1028, 1030, 1032, 1034, 1036, 1038, 1040, 1042, 1044, 1046, 1048, 1050, 1052, 1054, 1056, 1058, 1060, 1062, 1064, 1066, 1068, 1070] : List Nat).getD k 0) (u_lay RX12 TX12 k)) = true := by decide +kernel
set_option maxRecDepth 100000 in
theorem am_i11 : am_wd 896 (.instantiable RX12 57) = true := by decide +kernel
set_option maxRecDepth 100000 in
theorem am_n11 : am_wd 90 (.initialized RX12) = true := by decide +kernel
set_option maxRecDepth 100000 in
theorem am_v11 : ∀ j, j < 57 → defaultValue (tyX12 j) = am_fV 0 11 j (fun _ => 0) (fun _ => 0) (fun _ => none) := by decide +kernel
theorem am_cls : ∀ {ci : Nat} {q : vw_C}, vwCl[ci]? = some q → am_okC ci q
  | 0, _, h => by cases h; exact ⟨am_lw am_l0, ⟨tyX0, tyX0_ok, am_v0⟩, nmX0, am_wd_in am_i0, am_wd_in am_n0⟩
  | 1, _, h => by cases h; exact ⟨am_lw am_l1, ⟨tyX1, tyX1_ok, am_v1⟩, nmX1, am_wd_in am_i1, am_wd_in am_n1⟩
  | 2, _, h => by cases h; exact ⟨am_lw am_l2, ⟨tyX2, tyX2_ok, am_v2⟩, nmX2, am_wd_in am_i2, am_wd_in am_n2⟩
  | 3, _, h => by cases h; exact ⟨am_lw am_l3, ⟨tyX3, tyX3_ok, am_v3⟩, nmX3, am_wd_in am_i3, am_wd_in am_n3⟩
  | 4, _, h => by cases h; exact ⟨am_lw am_l4, ⟨tyX4, tyX4_ok, am_v4⟩, nmX4, am_wd_in am_i4, am_wd_in am_n4⟩
  | 5, _, h => by cases h; exact ⟨am_lw am_l5, ⟨tyX5, tyX5_ok, am_v5⟩, nmX5, am_wd_in am_i5, am_wd_in am_n5⟩
  | 6, _, h => by cases h; exact ⟨am_lw am_l6, ⟨tyX7, tyX7_ok, am_v6⟩, nmX7, am_wd_in am_i6, am_wd_in am_n6⟩
  | 7, _, h => by cases h; exact ⟨am_lw am_l7, ⟨tyX8, tyX8_ok, am_v7⟩, nmX8, am_wd_in am_i7, am_wd_in am_n7⟩
  | 8, _, h => by cases h; exact ⟨am_lw am_l8, ⟨tyX9, tyX9_ok, am_v8⟩, nmX9, am_wd_in am_i8, am_wd_in am_n8⟩
  | 9, _, h => by cases h; exact ⟨am_lw am_l9, ⟨tyX10, tyX10_ok, am_v9⟩, nmX10, am_wd_in am_i9, am_wd_in am_n9⟩
  | 10, _, h => by cases h; exact ⟨am_lw am_l10, ⟨tyX11, tyX11_ok, am_v10⟩, nmX11, am_wd_in am_i10, am_wd_in am_n10⟩
  | 11, _, h => by cases h; exact ⟨am_lw am_l11, ⟨tyX12, tyX12_ok, am_v11⟩, nmX12, am_wd_in am_i11, am_wd_in am_n11⟩
  | n + 12, _, h => by cases (List.getElem?_eq_none (l := vwCl) (show vwCl.length ≤ n + 12 from Nat.le_add_left _ _)).symm.trans h
set_option maxRecDepth 100000 in
theorem am_acI : am_wd 119 (.arrayClass .int) = true := by decide +kernel
set_option maxRecDepth 100000 in
theorem am_acZ : am_wd 203 (.arrayClass .boolean) = true := by decide +kernel
set_option maxRecDepth 100000 in
theorem am_acB : am_wd 1073 (.arrayClass .byte) = true := by decide +kernel
set_option maxRecDepth 100000 in
theorem am_ovT : lw_tbl[180]? = some (.arrayOver (.object "SoundToll$Tune")) := by decide +kernel
set_option maxRecDepth 100000 in
theorem am_ovG : lw_tbl[182]? = some (.arrayOver (.object "SoundToll$Gate")) := by decide +kernel
set_option maxRecDepth 100000 in
theorem am_ovI : lw_tbl[333]? = some (.arrayOver (.array .int)) := by decide +kernel
set_option maxRecDepth 100000 in
theorem am_nst : ((List.range 13).all fun k => decide (lw_tbl[am_nestp.getD k 0]? = some (am_nest.getD k .tt))) = true := by decide +kernel
set_option maxRecDepth 100000 in
theorem am_cpS : am_wd 780 (.static arraycopyName) = true := by decide +kernel
set_option maxRecDepth 100000 in
theorem am_cpN : am_wd 781 (.native arraycopyName) = true := by decide +kernel
set_option maxRecDepth 100000 in
theorem am_cpI : am_wd 94 (.initialized "java/lang/System") = true := by decide +kernel
set_option maxRecDepth 100000 in
theorem am_obI : am_wd 101 (.instanceMethod objectInit) = true := by decide +kernel
set_option maxRecDepth 100000 in
theorem am_obC : am_wd 102 (.code objectInit ⟨#[0xb1]⟩ 1 none) = true := by decide +kernel
