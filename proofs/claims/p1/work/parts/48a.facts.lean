set_option maxRecDepth 100000 in
abbrev m_Mod_in : am_M := (⟨"StowTongueModel", "in", "(JJJ)Z"⟩, prog_13_method_1_code, 6, (some FieldType.boolean))
set_option maxRecDepth 100000 in
theorem d_Mod_in_0 : decode prog_13_method_1_code 0 = .ok (.lload_n 0, 1) := by decide +kernel
set_option maxRecDepth 100000 in
theorem d_Mod_in_1 : decode prog_13_method_1_code 1 = .ok (.lload_n 2, 1) := by decide +kernel
set_option maxRecDepth 100000 in
theorem d_Mod_in_2 : decode prog_13_method_1_code 2 = .ok (.lcmp, 1) := by decide +kernel
set_option maxRecDepth 100000 in
theorem d_Mod_in_3 : decode prog_13_method_1_code 3 = .ok (.ifCond .lt 14, 3) := by decide +kernel
set_option maxRecDepth 100000 in
theorem d_Mod_in_6 : decode prog_13_method_1_code 6 = .ok (.lload_n 0, 1) := by decide +kernel
set_option maxRecDepth 100000 in
theorem d_Mod_in_7 : decode prog_13_method_1_code 7 = .ok (.lload 4, 2) := by decide +kernel
set_option maxRecDepth 100000 in
theorem d_Mod_in_9 : decode prog_13_method_1_code 9 = .ok (.lcmp, 1) := by decide +kernel
set_option maxRecDepth 100000 in
theorem d_Mod_in_10 : decode prog_13_method_1_code 10 = .ok (.ifCond .gt 7, 3) := by decide +kernel
set_option maxRecDepth 100000 in
theorem d_Mod_in_13 : decode prog_13_method_1_code 13 = .ok (.iconst 1, 1) := by decide +kernel
set_option maxRecDepth 100000 in
theorem d_Mod_in_14 : decode prog_13_method_1_code 14 = .ok (.goto 4, 3) := by decide +kernel
set_option maxRecDepth 100000 in
theorem d_Mod_in_18 : decode prog_13_method_1_code 18 = .ok (.ireturn, 1) := by decide +kernel
set_option maxRecDepth 100000 in
theorem d_Mod_in_17 : decode prog_13_method_1_code 17 = .ok (.iconst 0, 1) := by decide +kernel
set_option maxRecDepth 100000 in
theorem d_Stow_count_113 : decode prog_1_method_14_code 113 = .ok (.iconst (-1), 1) := by decide +kernel
set_option maxRecDepth 100000 in
theorem d_Stow_count_114 : decode prog_1_method_14_code 114 = .ok (.ireturn, 1) := by decide +kernel
set_option maxRecDepth 100000 in
theorem d_Mod_count_125 : decode prog_13_method_74_code 125 = .ok (.iconst (-1), 1) := by decide +kernel
set_option maxRecDepth 100000 in
theorem d_Mod_count_126 : decode prog_13_method_74_code 126 = .ok (.ireturn, 1) := by decide +kernel
set_option maxRecDepth 100000 in
abbrev m_Stow_end : am_M := (⟨"StowTongue", "end", "(I)I"⟩, prog_1_method_4_code, 2, (some FieldType.int))
set_option maxRecDepth 100000 in
theorem d_Stow_end_0 : decode prog_1_method_4_code 0 = .ok (.iload_n 1, 1) := by decide +kernel
set_option maxRecDepth 100000 in
theorem d_Stow_end_1 : decode prog_1_method_4_code 1 = .ok (.ifCond .lt 11, 3) := by decide +kernel
set_option maxRecDepth 100000 in
theorem d_Stow_end_4 : decode prog_1_method_4_code 4 = .ok (.iload_n 1, 1) := by decide +kernel
set_option maxRecDepth 100000 in
theorem d_Stow_end_5 : decode prog_1_method_4_code 5 = .ok (.aload_n 0, 1) := by decide +kernel
set_option maxRecDepth 100000 in
theorem d_Stow_end_6 : decode prog_1_method_4_code 6 = .ok (.getfield 48, 3) := by decide +kernel
set_option maxRecDepth 100000 in
theorem d_Stow_end_9 : decode prog_1_method_4_code 9 = .ok (.if_icmp .le 5, 3) := by decide +kernel
set_option maxRecDepth 100000 in
theorem d_Stow_end_14 : decode prog_1_method_4_code 14 = .ok (.aload_n 0, 1) := by decide +kernel
set_option maxRecDepth 100000 in
theorem d_Stow_end_15 : decode prog_1_method_4_code 15 = .ok (.iload_n 1, 1) := by decide +kernel
set_option maxRecDepth 100000 in
theorem d_Stow_end_16 : decode prog_1_method_4_code 16 = .ok (.putfield 48, 3) := by decide +kernel
set_option maxRecDepth 100000 in
theorem d_Stow_end_19 : decode prog_1_method_4_code 19 = .ok (.iload_n 1, 1) := by decide +kernel
set_option maxRecDepth 100000 in
theorem d_Stow_end_20 : decode prog_1_method_4_code 20 = .ok (.ireturn, 1) := by decide +kernel
set_option maxRecDepth 100000 in
abbrev m_Mod_end : am_M := (⟨"StowTongueModel", "end", "(I)I"⟩, prog_13_method_37_code, 2, (some FieldType.int))
set_option maxRecDepth 100000 in
theorem d_Mod_end_0 : decode prog_13_method_37_code 0 = .ok (.iload_n 1, 1) := by decide +kernel
set_option maxRecDepth 100000 in
theorem d_Mod_end_1 : decode prog_13_method_37_code 1 = .ok (.i2l, 1) := by decide +kernel
set_option maxRecDepth 100000 in
theorem d_Mod_end_2 : decode prog_13_method_37_code 2 = .ok (.lconst 0, 1) := by decide +kernel
set_option maxRecDepth 100000 in
theorem d_Mod_end_3 : decode prog_13_method_37_code 3 = .ok (.aload_n 0, 1) := by decide +kernel
set_option maxRecDepth 100000 in
theorem d_Mod_end_4 : decode prog_13_method_37_code 4 = .ok (.getfield 134, 3) := by decide +kernel
set_option maxRecDepth 100000 in
theorem d_Mod_end_7 : decode prog_13_method_37_code 7 = .ok (.i2l, 1) := by decide +kernel
set_option maxRecDepth 100000 in
theorem w_1790 : (Cond.methodLink "StowTongueModel" 70 ⟨"StowTongueModel", "in", "(JJJ)Z"⟩ : Cond) ∈ am_tbl := am_w 1790 (by decide +kernel) (by decide +kernel)
set_option maxRecDepth 100000 in
theorem w_1792 : (Cond.code ⟨"StowTongueModel", "in", "(JJJ)Z"⟩ prog_13_method_1_code 6 (some FieldType.boolean) : Cond) ∈ am_tbl := am_w 1792 rfl rfl
set_option maxRecDepth 100000 in
theorem l_Mod_70 : am_L "StowTongueModel" 70 3 m_Mod_in := ⟨Or.inl w_1790, w_160, w_1792, ⟨by decide, by decide⟩, by decide +kernel, by decide⟩
set_option maxRecDepth 100000 in
theorem w_1791 : (Cond.static ⟨"StowTongueModel", "in", "(JJJ)Z"⟩ : Cond) ∈ am_tbl := am_w 1791 (by decide +kernel) (by decide +kernel)
set_option maxRecDepth 100000 in
theorem d_Mod_end_8 : decode prog_13_method_37_code 8 = .ok (.invokestatic 70, 3) := by decide +kernel
set_option maxRecDepth 100000 in
theorem d_Mod_end_11 : decode prog_13_method_37_code 11 = .ok (.ifCond .ne 5, 3) := by decide +kernel
set_option maxRecDepth 100000 in
theorem d_Mod_end_16 : decode prog_13_method_37_code 16 = .ok (.aload_n 0, 1) := by decide +kernel
set_option maxRecDepth 100000 in
theorem d_Mod_end_17 : decode prog_13_method_37_code 17 = .ok (.iload_n 1, 1) := by decide +kernel
set_option maxRecDepth 100000 in
theorem d_Mod_end_18 : decode prog_13_method_37_code 18 = .ok (.putfield 134, 3) := by decide +kernel
set_option maxRecDepth 100000 in
theorem d_Mod_end_21 : decode prog_13_method_37_code 21 = .ok (.iload_n 1, 1) := by decide +kernel
set_option maxRecDepth 100000 in
theorem d_Mod_end_22 : decode prog_13_method_37_code 22 = .ok (.ireturn, 1) := by decide +kernel
set_option maxRecDepth 100000 in
theorem d_Stow_end_12 : decode prog_1_method_4_code 12 = .ok (.iconst (-1), 1) := by decide +kernel
set_option maxRecDepth 100000 in
theorem d_Stow_end_13 : decode prog_1_method_4_code 13 = .ok (.ireturn, 1) := by decide +kernel
set_option maxRecDepth 100000 in
theorem d_Mod_end_14 : decode prog_13_method_37_code 14 = .ok (.iconst (-1), 1) := by decide +kernel
set_option maxRecDepth 100000 in
theorem d_Mod_end_15 : decode prog_13_method_37_code 15 = .ok (.ireturn, 1) := by decide +kernel
set_option maxRecDepth 100000 in
abbrev m_Stow_octet : am_M := (⟨"StowTongue", "octet", "(I)I"⟩, prog_1_method_9_code, 2, (some FieldType.int))
set_option maxRecDepth 100000 in
theorem d_Stow_octet_0 : decode prog_1_method_9_code 0 = .ok (.iload_n 1, 1) := by decide +kernel
set_option maxRecDepth 100000 in
theorem d_Stow_octet_1 : decode prog_1_method_9_code 1 = .ok (.iconst (-1), 1) := by decide +kernel
set_option maxRecDepth 100000 in
theorem d_Stow_octet_2 : decode prog_1_method_9_code 2 = .ok (.if_icmp .ne 11, 3) := by decide +kernel
set_option maxRecDepth 100000 in
theorem d_Stow_octet_5 : decode prog_1_method_9_code 5 = .ok (.aload_n 0, 1) := by decide +kernel
set_option maxRecDepth 100000 in
theorem d_Stow_octet_6 : decode prog_1_method_9_code 6 = .ok (.getfield 16, 3) := by decide +kernel
set_option maxRecDepth 100000 in
abbrev m_Out_size : am_M := (⟨"StowTongue$Out", "size", "()I"⟩, prog_7_method_3_code, 1, (some FieldType.int))
set_option maxRecDepth 100000 in
theorem d_Out_size_0 : decode prog_7_method_3_code 0 = .ok (.aload_n 0, 1) := by decide +kernel
set_option maxRecDepth 100000 in
theorem w_186 : (Cond.fieldLink "StowTongue$Out" 15 "StowTongue$Out" "size" "I" : Cond) ∈ am_tbl := am_w 186 (by decide +kernel) (by decide +kernel)
set_option maxRecDepth 100000 in
theorem f_Out_15 : am_F "StowTongue$Out" 15 0 1 := ⟨_, rfl, cl_0, by decide, Or.inl w_186⟩
set_option maxRecDepth 100000 in
theorem d_Out_size_1 : decode prog_7_method_3_code 1 = .ok (.getfield 15, 3) := by decide +kernel
set_option maxRecDepth 100000 in
theorem d_Out_size_4 : decode prog_7_method_3_code 4 = .ok (.ireturn, 1) := by decide +kernel
set_option maxRecDepth 100000 in
theorem w_1387 : (Cond.methodLink "StowTongue" 138 ⟨"StowTongue$Out", "size", "()I"⟩ : Cond) ∈ am_tbl := am_w 1387 (by decide +kernel) (by decide +kernel)
set_option maxRecDepth 100000 in
theorem w_1390 : (Cond.code ⟨"StowTongue$Out", "size", "()I"⟩ prog_7_method_3_code 1 (some FieldType.int) : Cond) ∈ am_tbl := am_w 1390 rfl rfl
set_option maxRecDepth 100000 in
theorem l_Stow_138 : am_L "StowTongue" 138 0 m_Out_size := ⟨Or.inl w_1387, w_144, w_1390, ⟨by decide, by decide⟩, by decide +kernel, by decide⟩
set_option maxRecDepth 100000 in
theorem w_1388 : (Cond.instanceMethod ⟨"StowTongue$Out", "size", "()I"⟩ : Cond) ∈ am_tbl := am_w 1388 (by decide +kernel) (by decide +kernel)
set_option maxRecDepth 100000 in
theorem w_1389 : (Cond.selects "StowTongue$Out" ⟨"StowTongue$Out", "size", "()I"⟩ ⟨"StowTongue$Out", "size", "()I"⟩ : Cond) ∈ am_tbl := am_w 1389 (by decide +kernel) (by decide +kernel)
set_option maxRecDepth 100000 in
theorem d_Stow_octet_9 : decode prog_1_method_9_code 9 = .ok (.invokevirtual 138, 3) := by decide +kernel
set_option maxRecDepth 100000 in
theorem d_Stow_octet_12 : decode prog_1_method_9_code 12 = .ok (.ireturn, 1) := by decide +kernel
set_option maxRecDepth 100000 in
abbrev m_Mod_octet : am_M := (⟨"StowTongueModel", "octet", "(I)I"⟩, prog_13_method_72_code, 2, (some FieldType.int))
set_option maxRecDepth 100000 in
theorem d_Mod_octet_0 : decode prog_13_method_72_code 0 = .ok (.iload_n 1, 1) := by decide +kernel
set_option maxRecDepth 100000 in
theorem d_Mod_octet_1 : decode prog_13_method_72_code 1 = .ok (.i2l, 1) := by decide +kernel
set_option maxRecDepth 100000 in
theorem d_Mod_octet_2 : decode prog_13_method_72_code 2 = .ok (.ldc2_w 622, 3) := by decide +kernel
set_option maxRecDepth 100000 in
theorem w_2172 : (Cond.constantLong "StowTongueModel" 622 (-1) : Cond) ∈ am_tbl := am_w 2172 (by decide +kernel) (by decide +kernel)
set_option maxRecDepth 100000 in
theorem d_Mod_octet_5 : decode prog_13_method_72_code 5 = .ok (.aload_n 0, 1) := by decide +kernel
set_option maxRecDepth 100000 in
theorem w_1625 : (Cond.fieldLink "StowTongueModel" 440 "StowTongueModel" "outMany" "I" : Cond) ∈ am_tbl := am_w 1625 (by decide +kernel) (by decide +kernel)
set_option maxRecDepth 100000 in
theorem f_Mod_440 : am_F "StowTongueModel" 440 14 3 := ⟨_, rfl, cl_14, by decide, Or.inl w_1625⟩
set_option maxRecDepth 100000 in
theorem d_Mod_octet_6 : decode prog_13_method_72_code 6 = .ok (.getfield 440, 3) := by decide +kernel
set_option maxRecDepth 100000 in
theorem d_Mod_octet_9 : decode prog_13_method_72_code 9 = .ok (.iconst 1, 1) := by decide +kernel
set_option maxRecDepth 100000 in
theorem d_Mod_octet_10 : decode prog_13_method_72_code 10 = .ok (.isub, 1) := by decide +kernel
set_option maxRecDepth 100000 in
theorem d_Mod_octet_11 : decode prog_13_method_72_code 11 = .ok (.i2l, 1) := by decide +kernel
set_option maxRecDepth 100000 in
theorem d_Mod_octet_12 : decode prog_13_method_72_code 12 = .ok (.invokestatic 70, 3) := by decide +kernel
set_option maxRecDepth 100000 in
theorem d_Mod_octet_15 : decode prog_13_method_72_code 15 = .ok (.ifCond .ne 6, 3) := by decide +kernel
set_option maxRecDepth 100000 in
theorem d_Mod_octet_21 : decode prog_13_method_72_code 21 = .ok (.iload_n 1, 1) := by decide +kernel
set_option maxRecDepth 100000 in
theorem d_Mod_octet_22 : decode prog_13_method_72_code 22 = .ok (.ifCond .ge 10, 3) := by decide +kernel
set_option maxRecDepth 100000 in
theorem d_Mod_octet_25 : decode prog_13_method_72_code 25 = .ok (.aload_n 0, 1) := by decide +kernel
set_option maxRecDepth 100000 in
theorem d_Mod_octet_26 : decode prog_13_method_72_code 26 = .ok (.getfield 440, 3) := by decide +kernel
set_option maxRecDepth 100000 in
theorem d_Mod_octet_29 : decode prog_13_method_72_code 29 = .ok (.goto 13, 3) := by decide +kernel
set_option maxRecDepth 100000 in
theorem d_Mod_octet_42 : decode prog_13_method_72_code 42 = .ok (.ireturn, 1) := by decide +kernel
set_option maxRecDepth 100000 in
theorem d_Stow_octet_13 : decode prog_1_method_9_code 13 = .ok (.iload_n 1, 1) := by decide +kernel
set_option maxRecDepth 100000 in
theorem d_Stow_octet_14 : decode prog_1_method_9_code 14 = .ok (.ifCond .lt 25, 3) := by decide +kernel
set_option maxRecDepth 100000 in
theorem d_Stow_octet_39 : decode prog_1_method_9_code 39 = .ok (.bipush (-2), 2) := by decide +kernel
set_option maxRecDepth 100000 in
theorem d_Stow_octet_41 : decode prog_1_method_9_code 41 = .ok (.ireturn, 1) := by decide +kernel
set_option maxRecDepth 100000 in
theorem d_Mod_octet_18 : decode prog_13_method_72_code 18 = .ok (.bipush (-2), 2) := by decide +kernel
set_option maxRecDepth 100000 in
theorem d_Mod_octet_20 : decode prog_13_method_72_code 20 = .ok (.ireturn, 1) := by decide +kernel
set_option maxRecDepth 100000 in
theorem d_Stow_octet_17 : decode prog_1_method_9_code 17 = .ok (.iload_n 1, 1) := by decide +kernel
set_option maxRecDepth 100000 in
theorem d_Stow_octet_18 : decode prog_1_method_9_code 18 = .ok (.aload_n 0, 1) := by decide +kernel
set_option maxRecDepth 100000 in
theorem d_Stow_octet_19 : decode prog_1_method_9_code 19 = .ok (.getfield 16, 3) := by decide +kernel
set_option maxRecDepth 100000 in
theorem d_Stow_octet_22 : decode prog_1_method_9_code 22 = .ok (.invokevirtual 138, 3) := by decide +kernel
set_option maxRecDepth 100000 in
theorem d_Stow_octet_25 : decode prog_1_method_9_code 25 = .ok (.if_icmp .ge 14, 3) := by decide +kernel
set_option maxRecDepth 100000 in
abbrev m_Stow_crash : am_M := (⟨"StowTongue", "crash", "(I)I"⟩, prog_1_method_12_code, 3, (some FieldType.int))
set_option maxRecDepth 100000 in
theorem d_Stow_crash_0 : decode prog_1_method_12_code 0 = .ok (.iload_n 1, 1) := by decide +kernel
set_option maxRecDepth 100000 in
theorem d_Stow_crash_1 : decode prog_1_method_12_code 1 = .ok (.ifCond .ge 5, 3) := by decide +kernel
set_option maxRecDepth 100000 in
theorem d_Stow_crash_4 : decode prog_1_method_12_code 4 = .ok (.iconst (-1), 1) := by decide +kernel
set_option maxRecDepth 100000 in
theorem d_Stow_crash_5 : decode prog_1_method_12_code 5 = .ok (.ireturn, 1) := by decide +kernel
set_option maxRecDepth 100000 in
abbrev m_Mod_crash : am_M := (⟨"StowTongueModel", "crash", "(I)I"⟩, prog_13_method_68_code, 5, (some FieldType.int))
set_option maxRecDepth 100000 in
theorem d_Mod_crash_0 : decode prog_13_method_68_code 0 = .ok (.iload_n 1, 1) := by decide +kernel
set_option maxRecDepth 100000 in
theorem d_Mod_crash_1 : decode prog_13_method_68_code 1 = .ok (.ifCond .ge 5, 3) := by decide +kernel
set_option maxRecDepth 100000 in
theorem d_Mod_crash_4 : decode prog_13_method_68_code 4 = .ok (.iconst (-1), 1) := by decide +kernel
set_option maxRecDepth 100000 in
theorem d_Mod_crash_5 : decode prog_13_method_68_code 5 = .ok (.ireturn, 1) := by decide +kernel
set_option maxRecDepth 100000 in
theorem d_Stow_crash_6 : decode prog_1_method_12_code 6 = .ok (.aload_n 0, 1) := by decide +kernel
set_option maxRecDepth 100000 in
theorem d_Stow_crash_7 : decode prog_1_method_12_code 7 = .ok (.getfield 37, 3) := by decide +kernel
set_option maxRecDepth 100000 in
theorem d_Stow_crash_10 : decode prog_1_method_12_code 10 = .ok (.iload_n 1, 1) := by decide +kernel
set_option maxRecDepth 100000 in
abbrev m_Log_wholeWithin : am_M := (⟨"StowTongue$Log", "wholeWithin", "(I)I"⟩, prog_5_method_10_code, 4, (some FieldType.int))
set_option maxRecDepth 100000 in
theorem d_Log_wholeWithin_0 : decode prog_5_method_10_code 0 = .ok (.iload_n 1, 1) := by decide +kernel
set_option maxRecDepth 100000 in
theorem d_Log_wholeWithin_1 : decode prog_5_method_10_code 1 = .ok (.istore_n 2, 1) := by decide +kernel
set_option maxRecDepth 100000 in
theorem d_Log_wholeWithin_2 : decode prog_5_method_10_code 2 = .ok (.iconst 1, 1) := by decide +kernel
set_option maxRecDepth 100000 in
theorem d_Log_wholeWithin_3 : decode prog_5_method_10_code 3 = .ok (.istore_n 3, 1) := by decide +kernel
set_option maxRecDepth 100000 in
theorem d_Log_wholeWithin_4 : decode prog_5_method_10_code 4 = .ok (.iload_n 3, 1) := by decide +kernel
set_option maxRecDepth 100000 in
theorem d_Log_wholeWithin_5 : decode prog_5_method_10_code 5 = .ok (.aload_n 0, 1) := by decide +kernel
set_option maxRecDepth 100000 in
theorem d_Log_wholeWithin_6 : decode prog_5_method_10_code 6 = .ok (.getfield 27, 3) := by decide +kernel
set_option maxRecDepth 100000 in
theorem d_Log_wholeWithin_9 : decode prog_5_method_10_code 9 = .ok (.if_icmp .gt 32, 3) := by decide +kernel
set_option maxRecDepth 100000 in
theorem d_Log_wholeWithin_41 : decode prog_5_method_10_code 41 = .ok (.aload_n 0, 1) := by decide +kernel
set_option maxRecDepth 100000 in
theorem d_Log_wholeWithin_42 : decode prog_5_method_10_code 42 = .ok (.getfield 27, 3) := by decide +kernel
set_option maxRecDepth 100000 in
theorem d_Log_wholeWithin_45 : decode prog_5_method_10_code 45 = .ok (.ireturn, 1) := by decide +kernel
set_option maxRecDepth 100000 in
theorem w_1418 : (Cond.methodLink "StowTongue" 175 ⟨"StowTongue$Log", "wholeWithin", "(I)I"⟩ : Cond) ∈ am_tbl := am_w 1418 (by decide +kernel) (by decide +kernel)
set_option maxRecDepth 100000 in
theorem w_1421 : (Cond.code ⟨"StowTongue$Log", "wholeWithin", "(I)I"⟩ prog_5_method_10_code 4 (some FieldType.int) : Cond) ∈ am_tbl := am_w 1421 rfl rfl
set_option maxRecDepth 100000 in
theorem l_Stow_175 : am_L "StowTongue" 175 1 m_Log_wholeWithin := ⟨Or.inl w_1418, w_158, w_1421, ⟨by decide, by decide⟩, by decide +kernel, by decide⟩
set_option maxRecDepth 100000 in
theorem w_1419 : (Cond.instanceMethod ⟨"StowTongue$Log", "wholeWithin", "(I)I"⟩ : Cond) ∈ am_tbl := am_w 1419 (by decide +kernel) (by decide +kernel)
set_option maxRecDepth 100000 in
theorem w_1420 : (Cond.selects "StowTongue$Log" ⟨"StowTongue$Log", "wholeWithin", "(I)I"⟩ ⟨"StowTongue$Log", "wholeWithin", "(I)I"⟩ : Cond) ∈ am_tbl := am_w 1420 (by decide +kernel) (by decide +kernel)
set_option maxRecDepth 100000 in
theorem d_Stow_crash_11 : decode prog_1_method_12_code 11 = .ok (.invokevirtual 175, 3) := by decide +kernel
set_option maxRecDepth 100000 in
theorem d_Stow_crash_14 : decode prog_1_method_12_code 14 = .ok (.istore_n 2, 1) := by decide +kernel
set_option maxRecDepth 100000 in
theorem d_Stow_crash_15 : decode prog_1_method_12_code 15 = .ok (.aload_n 0, 1) := by decide +kernel
set_option maxRecDepth 100000 in
theorem d_Stow_crash_16 : decode prog_1_method_12_code 16 = .ok (.getfield 37, 3) := by decide +kernel
set_option maxRecDepth 100000 in
theorem d_Stow_crash_19 : decode prog_1_method_12_code 19 = .ok (.iload_n 2, 1) := by decide +kernel
set_option maxRecDepth 100000 in
theorem d_Stow_crash_20 : decode prog_1_method_12_code 20 = .ok (.invokevirtual 172, 3) := by decide +kernel
set_option maxRecDepth 100000 in
theorem d_Stow_crash_23 : decode prog_1_method_12_code 23 = .ok (.aload_n 0, 1) := by decide +kernel
set_option maxRecDepth 100000 in
theorem d_Stow_crash_24 : decode prog_1_method_12_code 24 = .ok (.getfield 37, 3) := by decide +kernel
set_option maxRecDepth 100000 in
abbrev m_Log_loseWaiting : am_M := (⟨"StowTongue$Log", "loseWaiting", "()V"⟩, prog_5_method_9_code, 1, none)
set_option maxRecDepth 100000 in
theorem d_Log_loseWaiting_0 : decode prog_5_method_9_code 0 = .ok (.aload_n 0, 1) := by decide +kernel
set_option maxRecDepth 100000 in
theorem d_Log_loseWaiting_1 : decode prog_5_method_9_code 1 = .ok (.iconst 0, 1) := by decide +kernel
set_option maxRecDepth 100000 in
theorem d_Log_loseWaiting_2 : decode prog_5_method_9_code 2 = .ok (.putfield 27, 3) := by decide +kernel
set_option maxRecDepth 100000 in
theorem d_Log_loseWaiting_5 : decode prog_5_method_9_code 5 = .ok (.return_, 1) := by decide +kernel
set_option maxRecDepth 100000 in
theorem w_1422 : (Cond.methodLink "StowTongue" 178 ⟨"StowTongue$Log", "loseWaiting", "()V"⟩ : Cond) ∈ am_tbl := am_w 1422 (by decide +kernel) (by decide +kernel)
set_option maxRecDepth 100000 in
theorem w_1425 : (Cond.code ⟨"StowTongue$Log", "loseWaiting", "()V"⟩ prog_5_method_9_code 1 none : Cond) ∈ am_tbl := am_w 1425 rfl rfl
set_option maxRecDepth 100000 in
theorem l_Stow_178 : am_L "StowTongue" 178 0 m_Log_loseWaiting := ⟨Or.inl w_1422, w_158, w_1425, ⟨by decide, by decide⟩, by decide +kernel, by decide⟩
set_option maxRecDepth 100000 in
theorem w_1423 : (Cond.instanceMethod ⟨"StowTongue$Log", "loseWaiting", "()V"⟩ : Cond) ∈ am_tbl := am_w 1423 (by decide +kernel) (by decide +kernel)
set_option maxRecDepth 100000 in
theorem w_1424 : (Cond.selects "StowTongue$Log" ⟨"StowTongue$Log", "loseWaiting", "()V"⟩ ⟨"StowTongue$Log", "loseWaiting", "()V"⟩ : Cond) ∈ am_tbl := am_w 1424 (by decide +kernel) (by decide +kernel)
set_option maxRecDepth 100000 in
theorem d_Stow_crash_27 : decode prog_1_method_12_code 27 = .ok (.invokevirtual 178, 3) := by decide +kernel
set_option maxRecDepth 100000 in
theorem d_Stow_crash_30 : decode prog_1_method_12_code 30 = .ok (.iload_n 2, 1) := by decide +kernel
set_option maxRecDepth 100000 in
theorem d_Stow_crash_31 : decode prog_1_method_12_code 31 = .ok (.ireturn, 1) := by decide +kernel
set_option maxRecDepth 100000 in
theorem d_Mod_crash_6 : decode prog_13_method_68_code 6 = .ok (.iconst 0, 1) := by decide +kernel
set_option maxRecDepth 100000 in
theorem d_Mod_crash_7 : decode prog_13_method_68_code 7 = .ok (.istore_n 2, 1) := by decide +kernel
set_option maxRecDepth 100000 in
theorem d_Mod_crash_8 : decode prog_13_method_68_code 8 = .ok (.iconst 0, 1) := by decide +kernel
set_option maxRecDepth 100000 in
theorem d_Mod_crash_9 : decode prog_13_method_68_code 9 = .ok (.istore_n 3, 1) := by decide +kernel
set_option maxRecDepth 100000 in
theorem d_Mod_crash_10 : decode prog_13_method_68_code 10 = .ok (.iload_n 2, 1) := by decide +kernel
set_option maxRecDepth 100000 in
theorem d_Mod_crash_11 : decode prog_13_method_68_code 11 = .ok (.aload_n 0, 1) := by decide +kernel
set_option maxRecDepth 100000 in
theorem d_Mod_crash_12 : decode prog_13_method_68_code 12 = .ok (.getfield 409, 3) := by decide +kernel
set_option maxRecDepth 100000 in
theorem d_Mod_crash_15 : decode prog_13_method_68_code 15 = .ok (.if_icmp .ge 36, 3) := by decide +kernel
set_option maxRecDepth 100000 in
theorem d_Mod_crash_51 : decode prog_13_method_68_code 51 = .ok (.iload_n 2, 1) := by decide +kernel
set_option maxRecDepth 100000 in
theorem d_Mod_crash_52 : decode prog_13_method_68_code 52 = .ok (.istore 4, 2) := by decide +kernel
set_option maxRecDepth 100000 in
theorem d_Mod_crash_54 : decode prog_13_method_68_code 54 = .ok (.iload 4, 2) := by decide +kernel
set_option maxRecDepth 100000 in
theorem d_Mod_crash_56 : decode prog_13_method_68_code 56 = .ok (.aload_n 0, 1) := by decide +kernel
set_option maxRecDepth 100000 in
theorem d_Mod_crash_57 : decode prog_13_method_68_code 57 = .ok (.getfield 409, 3) := by decide +kernel
set_option maxRecDepth 100000 in
theorem d_Mod_crash_60 : decode prog_13_method_68_code 60 = .ok (.if_icmp .ge 28, 3) := by decide +kernel
set_option maxRecDepth 100000 in
theorem d_Mod_crash_88 : decode prog_13_method_68_code 88 = .ok (.aload_n 0, 1) := by decide +kernel
set_option maxRecDepth 100000 in
theorem d_Mod_crash_89 : decode prog_13_method_68_code 89 = .ok (.getfield 349, 3) := by decide +kernel
set_option maxRecDepth 100000 in
theorem d_Mod_crash_92 : decode prog_13_method_68_code 92 = .ok (.iload_n 2, 1) := by decide +kernel
set_option maxRecDepth 100000 in
theorem d_Mod_crash_93 : decode prog_13_method_68_code 93 = .ok (.ifCond .ne 10, 3) := by decide +kernel
set_option maxRecDepth 100000 in
theorem d_Mod_crash_96 : decode prog_13_method_68_code 96 = .ok (.aload_n 0, 1) := by decide +kernel
set_option maxRecDepth 100000 in
theorem d_Mod_crash_97 : decode prog_13_method_68_code 97 = .ok (.getfield 356, 3) := by decide +kernel
set_option maxRecDepth 100000 in
theorem d_Mod_crash_100 : decode prog_13_method_68_code 100 = .ok (.goto 11, 3) := by decide +kernel
set_option maxRecDepth 100000 in
theorem d_Mod_crash_111 : decode prog_13_method_68_code 111 = .ok (.invokevirtual 448, 3) := by decide +kernel
set_option maxRecDepth 100000 in
theorem d_Mod_crash_114 : decode prog_13_method_68_code 114 = .ok (.aload_n 0, 1) := by decide +kernel
set_option maxRecDepth 100000 in
theorem d_Mod_crash_115 : decode prog_13_method_68_code 115 = .ok (.getfield 356, 3) := by decide +kernel
set_option maxRecDepth 100000 in
theorem d_Mod_crash_118 : decode prog_13_method_68_code 118 = .ok (.aload_n 0, 1) := by decide +kernel
set_option maxRecDepth 100000 in
theorem d_Mod_crash_119 : decode prog_13_method_68_code 119 = .ok (.getfield 349, 3) := by decide +kernel
set_option maxRecDepth 100000 in
theorem d_Mod_crash_122 : decode prog_13_method_68_code 122 = .ok (.invokevirtual 448, 3) := by decide +kernel
set_option maxRecDepth 100000 in
theorem d_Mod_crash_125 : decode prog_13_method_68_code 125 = .ok (.aload_n 0, 1) := by decide +kernel
set_option maxRecDepth 100000 in
theorem d_Mod_crash_126 : decode prog_13_method_68_code 126 = .ok (.iconst 0, 1) := by decide +kernel
set_option maxRecDepth 100000 in
theorem d_Mod_crash_127 : decode prog_13_method_68_code 127 = .ok (.putfield 409, 3) := by decide +kernel
set_option maxRecDepth 100000 in
theorem d_Mod_crash_130 : decode prog_13_method_68_code 130 = .ok (.iload_n 2, 1) := by decide +kernel
set_option maxRecDepth 100000 in
theorem d_Mod_crash_131 : decode prog_13_method_68_code 131 = .ok (.ireturn, 1) := by decide +kernel
set_option maxRecDepth 100000 in
abbrev m_Stow_run : am_M := (⟨"StowTongue", "run", "(I)I"⟩, prog_1_method_5_code, 5, (some FieldType.int))
set_option maxRecDepth 100000 in
theorem d_Stow_run_0 : decode prog_1_method_5_code 0 = .ok (.iload_n 1, 1) := by decide +kernel
set_option maxRecDepth 100000 in
theorem d_Stow_run_1 : decode prog_1_method_5_code 1 = .ok (.ifCond .lt 10, 3) := by decide +kernel
set_option maxRecDepth 100000 in
theorem d_Stow_run_11 : decode prog_1_method_5_code 11 = .ok (.iconst (-1), 1) := by decide +kernel
set_option maxRecDepth 100000 in
theorem d_Stow_run_12 : decode prog_1_method_5_code 12 = .ok (.ireturn, 1) := by decide +kernel
set_option maxRecDepth 100000 in
theorem d_Mod_run_0 : decode prog_13_method_42_code 0 = .ok (.iload_n 1, 1) := by decide +kernel
set_option maxRecDepth 100000 in
theorem d_Mod_run_1 : decode prog_13_method_42_code 1 = .ok (.i2l, 1) := by decide +kernel
set_option maxRecDepth 100000 in
theorem d_Mod_run_2 : decode prog_13_method_42_code 2 = .ok (.lconst 0, 1) := by decide +kernel
set_option maxRecDepth 100000 in
theorem d_Mod_run_3 : decode prog_13_method_42_code 3 = .ok (.ldc2_w 435, 3) := by decide +kernel
set_option maxRecDepth 100000 in
theorem w_1797 : (Cond.constantLong "StowTongueModel" 435 2000 : Cond) ∈ am_tbl := am_w 1797 (by decide +kernel) (by decide +kernel)
set_option maxRecDepth 100000 in
theorem d_Mod_run_6 : decode prog_13_method_42_code 6 = .ok (.invokestatic 70, 3) := by decide +kernel
set_option maxRecDepth 100000 in
theorem d_Mod_run_9 : decode prog_13_method_42_code 9 = .ok (.ifCond .ne 5, 3) := by decide +kernel
set_option maxRecDepth 100000 in
theorem d_Mod_run_12 : decode prog_13_method_42_code 12 = .ok (.iconst (-1), 1) := by decide +kernel
set_option maxRecDepth 100000 in
theorem d_Mod_run_13 : decode prog_13_method_42_code 13 = .ok (.ireturn, 1) := by decide +kernel
set_option maxRecDepth 100000 in
theorem d_Stow_run_4 : decode prog_1_method_5_code 4 = .ok (.iload_n 1, 1) := by decide +kernel
set_option maxRecDepth 100000 in
theorem d_Stow_run_5 : decode prog_1_method_5_code 5 = .ok (.sipush 2000, 3) := by decide +kernel
set_option maxRecDepth 100000 in
theorem d_Stow_run_8 : decode prog_1_method_5_code 8 = .ok (.if_icmp .le 5, 3) := by decide +kernel
set_option maxRecDepth 100000 in
theorem d_Stow_run_13 : decode prog_1_method_5_code 13 = .ok (.aload_n 0, 1) := by decide +kernel
set_option maxRecDepth 100000 in
theorem d_Stow_run_14 : decode prog_1_method_5_code 14 = .ok (.getfield 23, 3) := by decide +kernel
set_option maxRecDepth 100000 in
theorem d_Stow_run_17 : decode prog_1_method_5_code 17 = .ok (.aload_n 0, 1) := by decide +kernel
set_option maxRecDepth 100000 in
theorem d_Stow_run_18 : decode prog_1_method_5_code 18 = .ok (.getfield 9, 3) := by decide +kernel
set_option maxRecDepth 100000 in
theorem d_Stow_run_21 : decode prog_1_method_5_code 21 = .ok (.aload_n 0, 1) := by decide +kernel
set_option maxRecDepth 100000 in
theorem d_Stow_run_22 : decode prog_1_method_5_code 22 = .ok (.getfield 48, 3) := by decide +kernel
set_option maxRecDepth 100000 in
abbrev m_Pars_read : am_M := (⟨"StowTongue$Parser", "read", "([BI)I"⟩, prog_8_method_2_code, 4, (some FieldType.int))
set_option maxRecDepth 100000 in
theorem d_Pars_read_0 : decode prog_8_method_2_code 0 = .ok (.aload_n 0, 1) := by decide +kernel
set_option maxRecDepth 100000 in
theorem d_Pars_read_1 : decode prog_8_method_2_code 1 = .ok (.getfield 12, 3) := by decide +kernel
set_option maxRecDepth 100000 in
theorem d_Pars_read_4 : decode prog_8_method_2_code 4 = .ok (.aload_n 1, 1) := by decide +kernel
set_option maxRecDepth 100000 in
theorem d_Pars_read_5 : decode prog_8_method_2_code 5 = .ok (.iload_n 2, 1) := by decide +kernel
set_option maxRecDepth 100000 in
abbrev m_Lexer_begin : am_M := (⟨"StowTongue$Lexer", "begin", "([BI)V"⟩, prog_4_method_2_code, 3, none)
set_option maxRecDepth 100000 in
theorem d_Lexer_begin_0 : decode prog_4_method_2_code 0 = .ok (.aload_n 0, 1) := by decide +kernel
set_option maxRecDepth 100000 in
theorem d_Lexer_begin_1 : decode prog_4_method_2_code 1 = .ok (.aload_n 1, 1) := by decide +kernel
set_option maxRecDepth 100000 in
theorem d_Lexer_begin_2 : decode prog_4_method_2_code 2 = .ok (.putfield 15, 3) := by decide +kernel
set_option maxRecDepth 100000 in
theorem d_Lexer_begin_5 : decode prog_4_method_2_code 5 = .ok (.aload_n 0, 1) := by decide +kernel
set_option maxRecDepth 100000 in
theorem d_Lexer_begin_6 : decode prog_4_method_2_code 6 = .ok (.iload_n 2, 1) := by decide +kernel
set_option maxRecDepth 100000 in
theorem d_Lexer_begin_7 : decode prog_4_method_2_code 7 = .ok (.aload_n 1, 1) := by decide +kernel
set_option maxRecDepth 100000 in
theorem d_Lexer_begin_8 : decode prog_4_method_2_code 8 = .ok (.arraylength, 1) := by decide +kernel
set_option maxRecDepth 100000 in
theorem w_550 : (Cond.methodLink "StowTongue$Lexer" 37 ⟨"java/lang/Math", "min", "(II)I"⟩ : Cond) ∈ am_tbl := am_w 550 (by decide +kernel) (by decide +kernel)
set_option maxRecDepth 100000 in
theorem w_551 : (Cond.static ⟨"java/lang/Math", "min", "(II)I"⟩ : Cond) ∈ am_tbl := am_w 551 (by decide +kernel) (by decide +kernel)
set_option maxRecDepth 100000 in
theorem w_164 : (Cond.initialized "java/lang/Math" : Cond) ∈ am_tbl := am_w 164 (by decide +kernel) (by decide +kernel)
set_option maxRecDepth 100000 in
theorem w_552 : (Cond.code ⟨"java/lang/Math", "min", "(II)I"⟩ prog_21_method_69_code 2 (some FieldType.int) : Cond) ∈ am_tbl := am_w 552 rfl rfl
set_option maxRecDepth 100000 in
theorem d_Lexer_begin_9 : decode prog_4_method_2_code 9 = .ok (.invokestatic 37, 3) := by decide +kernel
set_option maxRecDepth 100000 in
theorem w_262 : (Cond.fieldLink "StowTongue$Lexer" 43 "StowTongue$Lexer" "length" "I" : Cond) ∈ am_tbl := am_w 262 (by decide +kernel) (by decide +kernel)
set_option maxRecDepth 100000 in
theorem f_Lexer_43 : am_F "StowTongue$Lexer" 43 1 2 := ⟨_, rfl, cl_1, by decide, Or.inl w_262⟩
set_option maxRecDepth 100000 in
theorem d_Lexer_begin_12 : decode prog_4_method_2_code 12 = .ok (.putfield 43, 3) := by decide +kernel
set_option maxRecDepth 100000 in
theorem d_Lexer_begin_15 : decode prog_4_method_2_code 15 = .ok (.aload_n 0, 1) := by decide +kernel
set_option maxRecDepth 100000 in
theorem d_Lexer_begin_16 : decode prog_4_method_2_code 16 = .ok (.iconst 0, 1) := by decide +kernel
set_option maxRecDepth 100000 in
theorem w_263 : (Cond.fieldLink "StowTongue$Lexer" 46 "StowTongue$Lexer" "next" "I" : Cond) ∈ am_tbl := am_w 263 (by decide +kernel) (by decide +kernel)
set_option maxRecDepth 100000 in
theorem f_Lexer_46 : am_F "StowTongue$Lexer" 46 1 3 := ⟨_, rfl, cl_1, by decide, Or.inl w_263⟩
set_option maxRecDepth 100000 in
theorem d_Lexer_begin_17 : decode prog_4_method_2_code 17 = .ok (.putfield 46, 3) := by decide +kernel
set_option maxRecDepth 100000 in
theorem d_Lexer_begin_20 : decode prog_4_method_2_code 20 = .ok (.aload_n 0, 1) := by decide +kernel
set_option maxRecDepth 100000 in
theorem d_Lexer_begin_21 : decode prog_4_method_2_code 21 = .ok (.iconst (-1), 1) := by decide +kernel
set_option maxRecDepth 100000 in
theorem w_264 : (Cond.fieldLink "StowTongue$Lexer" 49 "StowTongue$Lexer" "taken" "I" : Cond) ∈ am_tbl := am_w 264 (by decide +kernel) (by decide +kernel)
set_option maxRecDepth 100000 in
theorem f_Lexer_49 : am_F "StowTongue$Lexer" 49 1 4 := ⟨_, rfl, cl_1, by decide, Or.inl w_264⟩
set_option maxRecDepth 100000 in
theorem d_Lexer_begin_22 : decode prog_4_method_2_code 22 = .ok (.putfield 49, 3) := by decide +kernel
set_option maxRecDepth 100000 in
theorem d_Lexer_begin_25 : decode prog_4_method_2_code 25 = .ok (.aload_n 0, 1) := by decide +kernel
set_option maxRecDepth 100000 in
abbrev m_Lexer_advance : am_M := (⟨"StowTongue$Lexer", "advance", "()V"⟩, prog_4_method_3_code, 2, none)
set_option maxRecDepth 100000 in
theorem d_Lexer_advance_0 : decode prog_4_method_3_code 0 = .ok (.aload_n 0, 1) := by decide +kernel
set_option maxRecDepth 100000 in
theorem d_Lexer_advance_1 : decode prog_4_method_3_code 1 = .ok (.dup, 1) := by decide +kernel
set_option maxRecDepth 100000 in
theorem d_Lexer_advance_2 : decode prog_4_method_3_code 2 = .ok (.getfield 49, 3) := by decide +kernel
set_option maxRecDepth 100000 in
theorem d_Lexer_advance_5 : decode prog_4_method_3_code 5 = .ok (.iconst 1, 1) := by decide +kernel
set_option maxRecDepth 100000 in
theorem d_Lexer_advance_6 : decode prog_4_method_3_code 6 = .ok (.iadd, 1) := by decide +kernel
set_option maxRecDepth 100000 in
theorem d_Lexer_advance_7 : decode prog_4_method_3_code 7 = .ok (.putfield 49, 3) := by decide +kernel
set_option maxRecDepth 100000 in
theorem d_Lexer_advance_10 : decode prog_4_method_3_code 10 = .ok (.aload_n 0, 1) := by decide +kernel
set_option maxRecDepth 100000 in
abbrev m_Lexer_skipBlanks : am_M := (⟨"StowTongue$Lexer", "skipBlanks", "()V"⟩, prog_4_method_16_code, 2, none)
set_option maxRecDepth 100000 in
theorem d_Lexer_skipBlanks_0 : decode prog_4_method_16_code 0 = .ok (.aload_n 0, 1) := by decide +kernel
set_option maxRecDepth 100000 in
theorem d_Lexer_skipBlanks_1 : decode prog_4_method_16_code 1 = .ok (.getfield 46, 3) := by decide +kernel
set_option maxRecDepth 100000 in
theorem d_Lexer_skipBlanks_4 : decode prog_4_method_16_code 4 = .ok (.aload_n 0, 1) := by decide +kernel
set_option maxRecDepth 100000 in
theorem d_Lexer_skipBlanks_5 : decode prog_4_method_16_code 5 = .ok (.getfield 43, 3) := by decide +kernel
set_option maxRecDepth 100000 in
theorem d_Lexer_skipBlanks_8 : decode prog_4_method_16_code 8 = .ok (.if_icmp .ge 38, 3) := by decide +kernel
set_option maxRecDepth 100000 in
theorem d_Lexer_skipBlanks_46 : decode prog_4_method_16_code 46 = .ok (.return_, 1) := by decide +kernel
set_option maxRecDepth 100000 in
theorem w_557 : (Cond.methodLink "StowTongue$Lexer" 55 ⟨"StowTongue$Lexer", "skipBlanks", "()V"⟩ : Cond) ∈ am_tbl := am_w 557 (by decide +kernel) (by decide +kernel)
set_option maxRecDepth 100000 in
theorem w_560 : (Cond.code ⟨"StowTongue$Lexer", "skipBlanks", "()V"⟩ prog_4_method_16_code 2 none : Cond) ∈ am_tbl := am_w 560 rfl rfl
set_option maxRecDepth 100000 in
theorem l_Lexer_55 : am_L "StowTongue$Lexer" 55 0 m_Lexer_skipBlanks := ⟨Or.inl w_557, w_146, w_560, ⟨by decide, by decide⟩, by decide +kernel, by decide⟩
set_option maxRecDepth 100000 in
theorem w_559 : (Cond.instanceMethod ⟨"StowTongue$Lexer", "skipBlanks", "()V"⟩ : Cond) ∈ am_tbl := am_w 559 (by decide +kernel) (by decide +kernel)
set_option maxRecDepth 100000 in
theorem w_1 : (Cond.selects "StowTongue$Lexer" ⟨"StowTongue$Lexer", "skipBlanks", "()V"⟩ ⟨"StowTongue$Lexer", "skipBlanks", "()V"⟩ : Cond) ∈ am_tbl := am_w 1 (by decide +kernel) (by decide +kernel)
set_option maxRecDepth 100000 in
theorem d_Lexer_advance_11 : decode prog_4_method_3_code 11 = .ok (.invokevirtual 55, 3) := by decide +kernel
set_option maxRecDepth 100000 in
theorem d_Lexer_advance_14 : decode prog_4_method_3_code 14 = .ok (.aload_n 0, 1) := by decide +kernel
set_option maxRecDepth 100000 in
theorem d_Lexer_advance_15 : decode prog_4_method_3_code 15 = .ok (.aload_n 0, 1) := by decide +kernel
set_option maxRecDepth 100000 in
theorem d_Lexer_advance_16 : decode prog_4_method_3_code 16 = .ok (.getfield 46, 3) := by decide +kernel
set_option maxRecDepth 100000 in
theorem w_266 : (Cond.fieldLink "StowTongue$Lexer" 58 "StowTongue$Lexer" "place" "I" : Cond) ∈ am_tbl := am_w 266 (by decide +kernel) (by decide +kernel)
set_option maxRecDepth 100000 in
theorem f_Lexer_58 : am_F "StowTongue$Lexer" 58 1 6 := ⟨_, rfl, cl_1, by decide, Or.inl w_266⟩
set_option maxRecDepth 100000 in
theorem d_Lexer_advance_19 : decode prog_4_method_3_code 19 = .ok (.putfield 58, 3) := by decide +kernel
set_option maxRecDepth 100000 in
theorem d_Lexer_advance_22 : decode prog_4_method_3_code 22 = .ok (.aload_n 0, 1) := by decide +kernel
set_option maxRecDepth 100000 in
theorem d_Lexer_advance_23 : decode prog_4_method_3_code 23 = .ok (.aload_n 0, 1) := by decide +kernel
set_option maxRecDepth 100000 in
theorem d_Lexer_advance_24 : decode prog_4_method_3_code 24 = .ok (.getfield 46, 3) := by decide +kernel
set_option maxRecDepth 100000 in
abbrev m_Lexer_byteAt : am_M := (⟨"StowTongue$Lexer", "byteAt", "(I)I"⟩, prog_4_method_15_code, 2, (some FieldType.int))
set_option maxRecDepth 100000 in
theorem d_Lexer_byteAt_0 : decode prog_4_method_15_code 0 = .ok (.iload_n 1, 1) := by decide +kernel
set_option maxRecDepth 100000 in
theorem d_Lexer_byteAt_1 : decode prog_4_method_15_code 1 = .ok (.ifCond .lt 24, 3) := by decide +kernel
set_option maxRecDepth 100000 in
theorem d_Lexer_byteAt_4 : decode prog_4_method_15_code 4 = .ok (.iload_n 1, 1) := by decide +kernel
set_option maxRecDepth 100000 in
theorem d_Lexer_byteAt_5 : decode prog_4_method_15_code 5 = .ok (.aload_n 0, 1) := by decide +kernel
set_option maxRecDepth 100000 in
theorem d_Lexer_byteAt_6 : decode prog_4_method_15_code 6 = .ok (.getfield 43, 3) := by decide +kernel
set_option maxRecDepth 100000 in
theorem d_Lexer_byteAt_9 : decode prog_4_method_15_code 9 = .ok (.if_icmp .ge 16, 3) := by decide +kernel
set_option maxRecDepth 100000 in
theorem d_Lexer_byteAt_25 : decode prog_4_method_15_code 25 = .ok (.iconst (-1), 1) := by decide +kernel
set_option maxRecDepth 100000 in
theorem d_Lexer_byteAt_26 : decode prog_4_method_15_code 26 = .ok (.ireturn, 1) := by decide +kernel
set_option maxRecDepth 100000 in
theorem w_561 : (Cond.methodLink "StowTongue$Lexer" 61 ⟨"StowTongue$Lexer", "byteAt", "(I)I"⟩ : Cond) ∈ am_tbl := am_w 561 (by decide +kernel) (by decide +kernel)
set_option maxRecDepth 100000 in
theorem w_564 : (Cond.code ⟨"StowTongue$Lexer", "byteAt", "(I)I"⟩ prog_4_method_15_code 2 (some FieldType.int) : Cond) ∈ am_tbl := am_w 564 rfl rfl
set_option maxRecDepth 100000 in
theorem l_Lexer_61 : am_L "StowTongue$Lexer" 61 1 m_Lexer_byteAt := ⟨Or.inl w_561, w_146, w_564, ⟨by decide, by decide⟩, by decide +kernel, by decide⟩
set_option maxRecDepth 100000 in
theorem w_563 : (Cond.instanceMethod ⟨"StowTongue$Lexer", "byteAt", "(I)I"⟩ : Cond) ∈ am_tbl := am_w 563 (by decide +kernel) (by decide +kernel)
set_option maxRecDepth 100000 in
theorem w_2 : (Cond.selects "StowTongue$Lexer" ⟨"StowTongue$Lexer", "byteAt", "(I)I"⟩ ⟨"StowTongue$Lexer", "byteAt", "(I)I"⟩ : Cond) ∈ am_tbl := am_w 2 (by decide +kernel) (by decide +kernel)
set_option maxRecDepth 100000 in
theorem d_Lexer_advance_27 : decode prog_4_method_3_code 27 = .ok (.invokevirtual 61, 3) := by decide +kernel
set_option maxRecDepth 100000 in
theorem d_Lexer_advance_30 : decode prog_4_method_3_code 30 = .ok (.istore_n 1, 1) := by decide +kernel
set_option maxRecDepth 100000 in
theorem d_Lexer_advance_31 : decode prog_4_method_3_code 31 = .ok (.iload_n 1, 1) := by decide +kernel
set_option maxRecDepth 100000 in
theorem d_Lexer_advance_32 : decode prog_4_method_3_code 32 = .ok (.ifCond .ge 11, 3) := by decide +kernel
set_option maxRecDepth 100000 in
theorem d_Lexer_advance_35 : decode prog_4_method_3_code 35 = .ok (.aload_n 0, 1) := by decide +kernel
set_option maxRecDepth 100000 in
theorem d_Lexer_advance_36 : decode prog_4_method_3_code 36 = .ok (.iconst 0, 1) := by decide +kernel
set_option maxRecDepth 100000 in
theorem w_265 : (Cond.fieldLink "StowTongue$Lexer" 65 "StowTongue$Lexer" "kind" "I" : Cond) ∈ am_tbl := am_w 265 (by decide +kernel) (by decide +kernel)
set_option maxRecDepth 100000 in
theorem f_Lexer_65 : am_F "StowTongue$Lexer" 65 1 5 := ⟨_, rfl, cl_1, by decide, Or.inl w_265⟩
set_option maxRecDepth 100000 in
theorem d_Lexer_advance_37 : decode prog_4_method_3_code 37 = .ok (.putfield 65, 3) := by decide +kernel
set_option maxRecDepth 100000 in
theorem d_Lexer_advance_40 : decode prog_4_method_3_code 40 = .ok (.goto 49, 3) := by decide +kernel
set_option maxRecDepth 100000 in
theorem d_Lexer_advance_89 : decode prog_4_method_3_code 89 = .ok (.return_, 1) := by decide +kernel
set_option maxRecDepth 100000 in
theorem w_553 : (Cond.methodLink "StowTongue$Lexer" 52 ⟨"StowTongue$Lexer", "advance", "()V"⟩ : Cond) ∈ am_tbl := am_w 553 (by decide +kernel) (by decide +kernel)
set_option maxRecDepth 100000 in
theorem w_556 : (Cond.code ⟨"StowTongue$Lexer", "advance", "()V"⟩ prog_4_method_3_code 2 none : Cond) ∈ am_tbl := am_w 556 rfl rfl
set_option maxRecDepth 100000 in
theorem l_Lexer_52 : am_L "StowTongue$Lexer" 52 0 m_Lexer_advance := ⟨Or.inl w_553, w_146, w_556, ⟨by decide, by decide⟩, by decide +kernel, by decide⟩
set_option maxRecDepth 100000 in
theorem w_554 : (Cond.instanceMethod ⟨"StowTongue$Lexer", "advance", "()V"⟩ : Cond) ∈ am_tbl := am_w 554 (by decide +kernel) (by decide +kernel)
set_option maxRecDepth 100000 in
theorem w_555 : (Cond.selects "StowTongue$Lexer" ⟨"StowTongue$Lexer", "advance", "()V"⟩ ⟨"StowTongue$Lexer", "advance", "()V"⟩ : Cond) ∈ am_tbl := am_w 555 (by decide +kernel) (by decide +kernel)
set_option maxRecDepth 100000 in
theorem d_Lexer_begin_26 : decode prog_4_method_2_code 26 = .ok (.invokevirtual 52, 3) := by decide +kernel
set_option maxRecDepth 100000 in
theorem d_Lexer_begin_29 : decode prog_4_method_2_code 29 = .ok (.return_, 1) := by decide +kernel
set_option maxRecDepth 100000 in
theorem w_546 : (Cond.methodLink "StowTongue$Parser" 47 ⟨"StowTongue$Lexer", "begin", "([BI)V"⟩ : Cond) ∈ am_tbl := am_w 546 (by decide +kernel) (by decide +kernel)
set_option maxRecDepth 100000 in
theorem w_549 : (Cond.code ⟨"StowTongue$Lexer", "begin", "([BI)V"⟩ prog_4_method_2_code 3 none : Cond) ∈ am_tbl := am_w 549 rfl rfl
set_option maxRecDepth 100000 in
theorem l_Pars_47 : am_L "StowTongue$Parser" 47 2 m_Lexer_begin := ⟨Or.inl w_546, w_146, w_549, ⟨by decide, by decide⟩, by decide +kernel, by decide⟩
set_option maxRecDepth 100000 in
theorem w_547 : (Cond.instanceMethod ⟨"StowTongue$Lexer", "begin", "([BI)V"⟩ : Cond) ∈ am_tbl := am_w 547 (by decide +kernel) (by decide +kernel)
set_option maxRecDepth 100000 in
theorem w_548 : (Cond.selects "StowTongue$Lexer" ⟨"StowTongue$Lexer", "begin", "([BI)V"⟩ ⟨"StowTongue$Lexer", "begin", "([BI)V"⟩ : Cond) ∈ am_tbl := am_w 548 (by decide +kernel) (by decide +kernel)
set_option maxRecDepth 100000 in
theorem d_Pars_read_6 : decode prog_8_method_2_code 6 = .ok (.invokevirtual 47, 3) := by decide +kernel
set_option maxRecDepth 100000 in
theorem d_Pars_read_9 : decode prog_8_method_2_code 9 = .ok (.aload_n 0, 1) := by decide +kernel
set_option maxRecDepth 100000 in
theorem d_Pars_read_10 : decode prog_8_method_2_code 10 = .ok (.iconst (-1), 1) := by decide +kernel
set_option maxRecDepth 100000 in
theorem w_375 : (Cond.fieldLink "StowTongue$Parser" 51 "StowTongue$Parser" "fault" "I" : Cond) ∈ am_tbl := am_w 375 (by decide +kernel) (by decide +kernel)
set_option maxRecDepth 100000 in
theorem f_Pars_51 : am_F "StowTongue$Parser" 51 5 6 := ⟨_, rfl, cl_5, by decide, Or.inl w_375⟩
set_option maxRecDepth 100000 in
theorem d_Pars_read_11 : decode prog_8_method_2_code 11 = .ok (.putfield 51, 3) := by decide +kernel
set_option maxRecDepth 100000 in
theorem d_Pars_read_14 : decode prog_8_method_2_code 14 = .ok (.aload_n 0, 1) := by decide +kernel
set_option maxRecDepth 100000 in
theorem d_Pars_read_15 : decode prog_8_method_2_code 15 = .ok (.getfield 34, 3) := by decide +kernel
set_option maxRecDepth 100000 in
abbrev m_AL_clear : am_M := (⟨"java/util/ArrayList", "clear", "()V"⟩, prog_28_method_40_code, 4, none)
set_option maxRecDepth 100000 in
theorem d_AL_clear_0 : decode prog_28_method_40_code 0 = .ok (.aload_n 0, 1) := by decide +kernel
set_option maxRecDepth 100000 in
theorem d_AL_clear_1 : decode prog_28_method_40_code 1 = .ok (.dup, 1) := by decide +kernel
set_option maxRecDepth 100000 in
theorem w_335 : (Cond.fieldLink "java/util/ArrayList" 63 "java/util/ArrayList" "modCount" "I" : Cond) ∈ am_tbl := am_w 335 (by decide +kernel) (by decide +kernel)
set_option maxRecDepth 100000 in
theorem w_336 : (Cond.sameField "java/util/ArrayList" "java/util/AbstractList" "modCount" "I" : Cond) ∈ am_tbl := am_w 336 (by decide +kernel) (by decide +kernel)
set_option maxRecDepth 100000 in
theorem fS_AL_63 : am_FS "java/util/ArrayList" 63 3 2 := ⟨_, "java/util/ArrayList", rfl, cl_3, by decide, w_335, w_336⟩
set_option maxRecDepth 100000 in
theorem d_AL_clear_2 : decode prog_28_method_40_code 2 = .ok (.getfield 63, 3) := by decide +kernel
set_option maxRecDepth 100000 in
theorem d_AL_clear_5 : decode prog_28_method_40_code 5 = .ok (.iconst 1, 1) := by decide +kernel
set_option maxRecDepth 100000 in
theorem d_AL_clear_6 : decode prog_28_method_40_code 6 = .ok (.iadd, 1) := by decide +kernel
set_option maxRecDepth 100000 in
theorem d_AL_clear_7 : decode prog_28_method_40_code 7 = .ok (.putfield 63, 3) := by decide +kernel
set_option maxRecDepth 100000 in
theorem d_AL_clear_10 : decode prog_28_method_40_code 10 = .ok (.aload_n 0, 1) := by decide +kernel
set_option maxRecDepth 100000 in
theorem d_AL_clear_11 : decode prog_28_method_40_code 11 = .ok (.getfield 9, 3) := by decide +kernel
set_option maxRecDepth 100000 in
theorem d_AL_clear_14 : decode prog_28_method_40_code 14 = .ok (.astore_n 1, 1) := by decide +kernel
set_option maxRecDepth 100000 in
theorem d_AL_clear_15 : decode prog_28_method_40_code 15 = .ok (.aload_n 0, 1) := by decide +kernel
set_option maxRecDepth 100000 in
theorem w_333 : (Cond.fieldLink "java/util/ArrayList" 48 "java/util/ArrayList" "size" "I" : Cond) ∈ am_tbl := am_w 333 (by decide +kernel) (by decide +kernel)
set_option maxRecDepth 100000 in
theorem f_AL_48 : am_F "java/util/ArrayList" 48 3 1 := ⟨_, rfl, cl_3, by decide, Or.inl w_333⟩
set_option maxRecDepth 100000 in
theorem d_AL_clear_16 : decode prog_28_method_40_code 16 = .ok (.getfield 48, 3) := by decide +kernel
set_option maxRecDepth 100000 in
theorem d_AL_clear_19 : decode prog_28_method_40_code 19 = .ok (.istore_n 2, 1) := by decide +kernel
set_option maxRecDepth 100000 in
theorem d_AL_clear_20 : decode prog_28_method_40_code 20 = .ok (.aload_n 0, 1) := by decide +kernel
set_option maxRecDepth 100000 in
theorem d_AL_clear_21 : decode prog_28_method_40_code 21 = .ok (.iconst 0, 1) := by decide +kernel
set_option maxRecDepth 100000 in
theorem d_AL_clear_22 : decode prog_28_method_40_code 22 = .ok (.dup_x1, 1) := by decide +kernel
set_option maxRecDepth 100000 in
theorem d_AL_clear_23 : decode prog_28_method_40_code 23 = .ok (.putfield 48, 3) := by decide +kernel
set_option maxRecDepth 100000 in
theorem d_AL_clear_26 : decode prog_28_method_40_code 26 = .ok (.istore_n 3, 1) := by decide +kernel
set_option maxRecDepth 100000 in
theorem d_AL_clear_27 : decode prog_28_method_40_code 27 = .ok (.iload_n 3, 1) := by decide +kernel
set_option maxRecDepth 100000 in
theorem d_AL_clear_28 : decode prog_28_method_40_code 28 = .ok (.iload_n 2, 1) := by decide +kernel
set_option maxRecDepth 100000 in
theorem d_AL_clear_29 : decode prog_28_method_40_code 29 = .ok (.if_icmp .ge 13, 3) := by decide +kernel
set_option maxRecDepth 100000 in
theorem d_AL_clear_42 : decode prog_28_method_40_code 42 = .ok (.return_, 1) := by decide +kernel
set_option maxRecDepth 100000 in
theorem w_664 : (Cond.methodLink "StowTongue$Parser" 55 ⟨"java/util/ArrayList", "clear", "()V"⟩ : Cond) ∈ am_tbl := am_w 664 (by decide +kernel) (by decide +kernel)
set_option maxRecDepth 100000 in
theorem w_667 : (Cond.code ⟨"java/util/ArrayList", "clear", "()V"⟩ prog_28_method_40_code 4 none : Cond) ∈ am_tbl := am_w 667 rfl rfl
set_option maxRecDepth 100000 in
theorem l_Pars_55 : am_L "StowTongue$Parser" 55 0 m_AL_clear := ⟨Or.inl w_664, w_155, w_667, ⟨by decide, by decide⟩, by decide +kernel, by decide⟩
set_option maxRecDepth 100000 in
theorem w_665 : (Cond.instanceMethod ⟨"java/util/ArrayList", "clear", "()V"⟩ : Cond) ∈ am_tbl := am_w 665 (by decide +kernel) (by decide +kernel)
set_option maxRecDepth 100000 in
theorem w_666 : (Cond.selects "java/util/ArrayList" ⟨"java/util/ArrayList", "clear", "()V"⟩ ⟨"java/util/ArrayList", "clear", "()V"⟩ : Cond) ∈ am_tbl := am_w 666 (by decide +kernel) (by decide +kernel)
set_option maxRecDepth 100000 in
theorem d_Pars_read_18 : decode prog_8_method_2_code 18 = .ok (.invokevirtual 55, 3) := by decide +kernel
set_option maxRecDepth 100000 in
theorem d_Pars_read_21 : decode prog_8_method_2_code 21 = .ok (.aload_n 0, 1) := by decide +kernel
set_option maxRecDepth 100000 in
theorem d_Pars_read_22 : decode prog_8_method_2_code 22 = .ok (.getfield 21, 3) := by decide +kernel
set_option maxRecDepth 100000 in
abbrev m_Draft_clear : am_M := (⟨"StowTongue$Draft", "clear", "()V"⟩, prog_3_method_2_code, 1, none)
set_option maxRecDepth 100000 in
theorem d_Draft_clear_0 : decode prog_3_method_2_code 0 = .ok (.aload_n 0, 1) := by decide +kernel
set_option maxRecDepth 100000 in
theorem d_Draft_clear_1 : decode prog_3_method_2_code 1 = .ok (.iconst 0, 1) := by decide +kernel
set_option maxRecDepth 100000 in
theorem w_299 : (Cond.fieldLink "StowTongue$Draft" 20 "StowTongue$Draft" "size" "I" : Cond) ∈ am_tbl := am_w 299 (by decide +kernel) (by decide +kernel)
set_option maxRecDepth 100000 in
theorem f_Draft_20 : am_F "StowTongue$Draft" 20 2 1 := ⟨_, rfl, cl_2, by decide, Or.inl w_299⟩
set_option maxRecDepth 100000 in
theorem d_Draft_clear_2 : decode prog_3_method_2_code 2 = .ok (.putfield 20, 3) := by decide +kernel
set_option maxRecDepth 100000 in
theorem d_Draft_clear_5 : decode prog_3_method_2_code 5 = .ok (.aload_n 0, 1) := by decide +kernel
set_option maxRecDepth 100000 in
theorem d_Draft_clear_6 : decode prog_3_method_2_code 6 = .ok (.iconst 0, 1) := by decide +kernel
set_option maxRecDepth 100000 in
theorem w_301 : (Cond.fieldLink "StowTongue$Draft" 24 "StowTongue$Draft" "pooled" "I" : Cond) ∈ am_tbl := am_w 301 (by decide +kernel) (by decide +kernel)
set_option maxRecDepth 100000 in
theorem f_Draft_24 : am_F "StowTongue$Draft" 24 2 3 := ⟨_, rfl, cl_2, by decide, Or.inl w_301⟩
set_option maxRecDepth 100000 in
theorem d_Draft_clear_7 : decode prog_3_method_2_code 7 = .ok (.putfield 24, 3) := by decide +kernel
set_option maxRecDepth 100000 in
theorem d_Draft_clear_10 : decode prog_3_method_2_code 10 = .ok (.aload_n 0, 1) := by decide +kernel
set_option maxRecDepth 100000 in
theorem d_Draft_clear_11 : decode prog_3_method_2_code 11 = .ok (.iconst 0, 1) := by decide +kernel
set_option maxRecDepth 100000 in
theorem w_303 : (Cond.fieldLink "StowTongue$Draft" 27 "StowTongue$Draft" "localCount" "I" : Cond) ∈ am_tbl := am_w 303 (by decide +kernel) (by decide +kernel)
set_option maxRecDepth 100000 in
theorem f_Draft_27 : am_F "StowTongue$Draft" 27 2 5 := ⟨_, rfl, cl_2, by decide, Or.inl w_303⟩
set_option maxRecDepth 100000 in
theorem d_Draft_clear_12 : decode prog_3_method_2_code 12 = .ok (.putfield 27, 3) := by decide +kernel
set_option maxRecDepth 100000 in
theorem d_Draft_clear_15 : decode prog_3_method_2_code 15 = .ok (.return_, 1) := by decide +kernel
set_option maxRecDepth 100000 in
theorem w_668 : (Cond.methodLink "StowTongue$Parser" 58 ⟨"StowTongue$Draft", "clear", "()V"⟩ : Cond) ∈ am_tbl := am_w 668 (by decide +kernel) (by decide +kernel)
set_option maxRecDepth 100000 in
theorem w_671 : (Cond.code ⟨"StowTongue$Draft", "clear", "()V"⟩ prog_3_method_2_code 1 none : Cond) ∈ am_tbl := am_w 671 rfl rfl
set_option maxRecDepth 100000 in
theorem l_Pars_58 : am_L "StowTongue$Parser" 58 0 m_Draft_clear := ⟨Or.inl w_668, w_152, w_671, ⟨by decide, by decide⟩, by decide +kernel, by decide⟩
set_option maxRecDepth 100000 in
theorem w_669 : (Cond.instanceMethod ⟨"StowTongue$Draft", "clear", "()V"⟩ : Cond) ∈ am_tbl := am_w 669 (by decide +kernel) (by decide +kernel)
set_option maxRecDepth 100000 in
theorem w_670 : (Cond.selects "StowTongue$Draft" ⟨"StowTongue$Draft", "clear", "()V"⟩ ⟨"StowTongue$Draft", "clear", "()V"⟩ : Cond) ∈ am_tbl := am_w 670 (by decide +kernel) (by decide +kernel)
set_option maxRecDepth 100000 in
theorem d_Pars_read_25 : decode prog_8_method_2_code 25 = .ok (.invokevirtual 58, 3) := by decide +kernel
set_option maxRecDepth 100000 in
theorem d_Pars_read_28 : decode prog_8_method_2_code 28 = .ok (.aload_n 0, 1) := by decide +kernel
set_option maxRecDepth 100000 in
theorem d_Pars_read_29 : decode prog_8_method_2_code 29 = .ok (.aload_n 0, 1) := by decide +kernel
set_option maxRecDepth 100000 in
theorem d_Pars_read_30 : decode prog_8_method_2_code 30 = .ok (.getfield 21, 3) := by decide +kernel
set_option maxRecDepth 100000 in
theorem d_Pars_read_33 : decode prog_8_method_2_code 33 = .ok (.putfield 28, 3) := by decide +kernel
set_option maxRecDepth 100000 in
theorem d_Pars_read_36 : decode prog_8_method_2_code 36 = .ok (.iconst 0, 1) := by decide +kernel
set_option maxRecDepth 100000 in
theorem d_Pars_read_37 : decode prog_8_method_2_code 37 = .ok (.istore_n 3, 1) := by decide +kernel
set_option maxRecDepth 100000 in
theorem d_Pars_read_38 : decode prog_8_method_2_code 38 = .ok (.iload_n 3, 1) := by decide +kernel
set_option maxRecDepth 100000 in
theorem d_Pars_read_39 : decode prog_8_method_2_code 39 = .ok (.sipush 1500, 3) := by decide +kernel
set_option maxRecDepth 100000 in
theorem d_Pars_read_42 : decode prog_8_method_2_code 42 = .ok (.if_icmp .gt 49, 3) := by decide +kernel
set_option maxRecDepth 100000 in
theorem d_Pars_read_45 : decode prog_8_method_2_code 45 = .ok (.aload_n 0, 1) := by decide +kernel
set_option maxRecDepth 100000 in
theorem d_Pars_read_46 : decode prog_8_method_2_code 46 = .ok (.getfield 51, 3) := by decide +kernel
set_option maxRecDepth 100000 in
theorem d_Pars_read_49 : decode prog_8_method_2_code 49 = .ok (.ifCond .ge 42, 3) := by decide +kernel
set_option maxRecDepth 100000 in
theorem d_Pars_read_52 : decode prog_8_method_2_code 52 = .ok (.aload_n 0, 1) := by decide +kernel
set_option maxRecDepth 100000 in
theorem d_Pars_read_53 : decode prog_8_method_2_code 53 = .ok (.getfield 12, 3) := by decide +kernel
set_option maxRecDepth 100000 in
abbrev m_Lexer_kind : am_M := (⟨"StowTongue$Lexer", "kind", "()I"⟩, prog_4_method_5_code, 1, (some FieldType.int))
set_option maxRecDepth 100000 in
theorem d_Lexer_kind_0 : decode prog_4_method_5_code 0 = .ok (.aload_n 0, 1) := by decide +kernel
set_option maxRecDepth 100000 in
theorem d_Lexer_kind_1 : decode prog_4_method_5_code 1 = .ok (.getfield 65, 3) := by decide +kernel
set_option maxRecDepth 100000 in
theorem d_Lexer_kind_4 : decode prog_4_method_5_code 4 = .ok (.ireturn, 1) := by decide +kernel
set_option maxRecDepth 100000 in
theorem w_672 : (Cond.methodLink "StowTongue$Parser" 59 ⟨"StowTongue$Lexer", "kind", "()I"⟩ : Cond) ∈ am_tbl := am_w 672 (by decide +kernel) (by decide +kernel)
set_option maxRecDepth 100000 in
theorem w_675 : (Cond.code ⟨"StowTongue$Lexer", "kind", "()I"⟩ prog_4_method_5_code 1 (some FieldType.int) : Cond) ∈ am_tbl := am_w 675 rfl rfl
set_option maxRecDepth 100000 in
theorem l_Pars_59 : am_L "StowTongue$Parser" 59 0 m_Lexer_kind := ⟨Or.inl w_672, w_146, w_675, ⟨by decide, by decide⟩, by decide +kernel, by decide⟩
set_option maxRecDepth 100000 in
theorem w_673 : (Cond.instanceMethod ⟨"StowTongue$Lexer", "kind", "()I"⟩ : Cond) ∈ am_tbl := am_w 673 (by decide +kernel) (by decide +kernel)
set_option maxRecDepth 100000 in
theorem w_674 : (Cond.selects "StowTongue$Lexer" ⟨"StowTongue$Lexer", "kind", "()I"⟩ ⟨"StowTongue$Lexer", "kind", "()I"⟩ : Cond) ∈ am_tbl := am_w 674 (by decide +kernel) (by decide +kernel)
set_option maxRecDepth 100000 in
theorem d_Pars_read_56 : decode prog_8_method_2_code 56 = .ok (.invokevirtual 59, 3) := by decide +kernel
set_option maxRecDepth 100000 in
theorem d_Pars_read_59 : decode prog_8_method_2_code 59 = .ok (.ifCond .eq 32, 3) := by decide +kernel
set_option maxRecDepth 100000 in
theorem d_Pars_read_91 : decode prog_8_method_2_code 91 = .ok (.aload_n 0, 1) := by decide +kernel
set_option maxRecDepth 100000 in
theorem d_Pars_read_92 : decode prog_8_method_2_code 92 = .ok (.getfield 51, 3) := by decide +kernel
set_option maxRecDepth 100000 in
theorem d_Pars_read_95 : decode prog_8_method_2_code 95 = .ok (.ifCond .ge 17, 3) := by decide +kernel
