abbrev m_Stow_value : am_M := (⟨"StowTongue", "value", "()J"⟩, prog_1_method_7_code, 1, (some FieldType.long))
theorem d_Stow_value_0 : decode prog_1_method_7_code 0 = .ok (.aload_n 0, 1) := by decide +kernel
theorem w_502 : (Cond.fieldLink "StowTongue" 93 "StowTongue" "valueHead" "J" : Cond) ∈ am_tbl := am_w 502 (by decide +kernel) (by decide +kernel)
theorem f_Stow_93 : am_F "StowTongue" 93 9 7 := ⟨_, rfl, cl_9, by decide, Or.inl w_502⟩
theorem d_Stow_value_1 : decode prog_1_method_7_code 1 = .ok (.getfield 93, 3) := by decide +kernel
abbrev m_Cell_sortOf : am_M := (⟨"StowTongue$Cell", "sortOf", "(J)I"⟩, prog_2_method_3_code, 2, (some FieldType.int))
theorem d_Cell_sortOf_0 : decode prog_2_method_3_code 0 = .ok (.lload_n 0, 1) := by decide +kernel
theorem d_Cell_sortOf_1 : decode prog_2_method_3_code 1 = .ok (.bipush 56, 2) := by decide +kernel
theorem d_Cell_sortOf_3 : decode prog_2_method_3_code 3 = .ok (.lushr, 1) := by decide +kernel
theorem d_Cell_sortOf_4 : decode prog_2_method_3_code 4 = .ok (.l2i, 1) := by decide +kernel
theorem d_Cell_sortOf_5 : decode prog_2_method_3_code 5 = .ok (.ireturn, 1) := by decide +kernel
theorem w_1374 : (Cond.methodLink "StowTongue" 116 ⟨"StowTongue$Cell", "sortOf", "(J)I"⟩ : Cond) ∈ am_tbl := am_w 1374 (by decide +kernel) (by decide +kernel)
theorem w_1105 : (Cond.code ⟨"StowTongue$Cell", "sortOf", "(J)I"⟩ prog_2_method_3_code 2 (some FieldType.int) : Cond) ∈ am_tbl := am_w 1105 (by decide +kernel) (by decide +kernel)
theorem l_Stow_116 : am_L "StowTongue" 116 1 m_Cell_sortOf := ⟨Or.inl w_1374, w_151, w_1105, ⟨by decide, by decide⟩, by decide +kernel, by decide⟩
theorem w_1104 : (Cond.static ⟨"StowTongue$Cell", "sortOf", "(J)I"⟩ : Cond) ∈ am_tbl := am_w 1104 (by decide +kernel) (by decide +kernel)
theorem d_Stow_value_4 : decode prog_1_method_7_code 4 = .ok (.invokestatic 116, 3) := by decide +kernel
theorem d_Stow_value_7 : decode prog_1_method_7_code 7 = .ok (.iconst 2, 1) := by decide +kernel
theorem d_Stow_value_8 : decode prog_1_method_7_code 8 = .ok (.if_icmp .ne 25, 3) := by decide +kernel
theorem d_Stow_value_33 : decode prog_1_method_7_code 33 = .ok (.aload_n 0, 1) := by decide +kernel
theorem d_Stow_value_34 : decode prog_1_method_7_code 34 = .ok (.getfield 93, 3) := by decide +kernel
theorem d_Stow_value_37 : decode prog_1_method_7_code 37 = .ok (.aload_n 0, 1) := by decide +kernel
theorem w_503 : (Cond.fieldLink "StowTongue" 100 "StowTongue" "valueTail" "J" : Cond) ∈ am_tbl := am_w 503 (by decide +kernel) (by decide +kernel)
theorem f_Stow_100 : am_F "StowTongue" 100 9 8 := ⟨_, rfl, cl_9, by decide, Or.inl w_503⟩
theorem d_Stow_value_38 : decode prog_1_method_7_code 38 = .ok (.getfield 100, 3) := by decide +kernel
abbrev m_Stow_asAnswer : am_M := (⟨"StowTongue", "asAnswer", "(JJ)J"⟩, prog_1_method_8_code, 4, (some FieldType.long))
theorem d_Stow_asAnswer_0 : decode prog_1_method_8_code 0 = .ok (.lload_n 0, 1) := by decide +kernel
theorem d_Stow_asAnswer_1 : decode prog_1_method_8_code 1 = .ok (.invokestatic 116, 3) := by decide +kernel
theorem d_Stow_asAnswer_4 : decode prog_1_method_8_code 4 = .ok (.tableswitch 46 1 4 #[32, 34, 38, 42], 32) := by decide +kernel
theorem d_Stow_asAnswer_50 : decode prog_1_method_8_code 50 = .ok (.ldc2_w 136, 3) := by decide +kernel
theorem w_1382 : (Cond.constantLong "StowTongue" 136 1099511627776 : Cond) ∈ am_tbl := am_w 1382 (by decide +kernel) (by decide +kernel)
theorem d_Stow_asAnswer_53 : decode prog_1_method_8_code 53 = .ok (.lreturn, 1) := by decide +kernel
theorem w_1376 : (Cond.methodLink "StowTongue" 126 ⟨"StowTongue", "asAnswer", "(JJ)J"⟩ : Cond) ∈ am_tbl := am_w 1376 (by decide +kernel) (by decide +kernel)
theorem w_143 : (Cond.initialized "StowTongue" : Cond) ∈ am_tbl := am_w 143 (by decide +kernel) (by decide +kernel)
theorem w_1378 : (Cond.code ⟨"StowTongue", "asAnswer", "(JJ)J"⟩ prog_1_method_8_code 4 (some FieldType.long) : Cond) ∈ am_tbl := am_w 1378 (by decide +kernel) (by decide +kernel)
theorem l_Stow_126 : am_L "StowTongue" 126 2 m_Stow_asAnswer := ⟨Or.inl w_1376, w_143, w_1378, ⟨by decide, by decide⟩, by decide +kernel, by decide⟩
theorem w_1377 : (Cond.static ⟨"StowTongue", "asAnswer", "(JJ)J"⟩ : Cond) ∈ am_tbl := am_w 1377 (by decide +kernel) (by decide +kernel)
theorem d_Stow_value_41 : decode prog_1_method_7_code 41 = .ok (.invokestatic 126, 3) := by decide +kernel
theorem d_Stow_value_44 : decode prog_1_method_7_code 44 = .ok (.lreturn, 1) := by decide +kernel
abbrev m_Mod_value_ : am_M := (⟨"StowTongueModel", "value", "()J"⟩, prog_13_method_71_code, 2, (some FieldType.long))
theorem d_Mod_value__0 : decode prog_13_method_71_code 0 = .ok (.aload_n 0, 1) := by decide +kernel
theorem d_Mod_value__1 : decode prog_13_method_71_code 1 = .ok (.getfield 374, 3) := by decide +kernel
theorem w_1503 : (Cond.fieldLink "StowTongueModel" 515 "StowTongueModel$Values" "kind" "[I" : Cond) ∈ am_tbl := am_w 1503 (by decide +kernel) (by decide +kernel)
theorem f_Mod_515 : am_F "StowTongueModel" 515 11 0 := ⟨_, rfl, cl_11, by decide, Or.inl w_1503⟩
theorem d_Mod_value__4 : decode prog_13_method_71_code 4 = .ok (.getfield 515, 3) := by decide +kernel
theorem d_Mod_value__7 : decode prog_13_method_71_code 7 = .ok (.iconst 0, 1) := by decide +kernel
theorem d_Mod_value__8 : decode prog_13_method_71_code 8 = .ok (.iaload, 1) := by decide +kernel
theorem d_Mod_value__9 : decode prog_13_method_71_code 9 = .ok (.tableswitch 93 0 3 #[31, 35, 45, 89], 31) := by decide +kernel
theorem d_Mod_value__40 : decode prog_13_method_71_code 40 = .ok (.ldc2_w 50, 3) := by decide +kernel
theorem w_1823 : (Cond.constantLong "StowTongueModel" 50 1099511627776 : Cond) ∈ am_tbl := am_w 1823 (by decide +kernel) (by decide +kernel)
theorem d_Mod_value__43 : decode prog_13_method_71_code 43 = .ok (.lreturn, 1) := by decide +kernel
