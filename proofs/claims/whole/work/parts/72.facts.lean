abbrev m_Vals_set : am_M := (⟨"StowTongueModel$Values", "set", "(IIIJJ)V"⟩, prog_16_method_2_code, 8, none)
theorem d_Vals_set_0 : decode prog_16_method_2_code 0 = .ok (.aload_n 0, 1) := by decide +kernel
theorem d_Vals_set_1 : decode prog_16_method_2_code 1 = .ok (.getfield 7, 3) := by decide +kernel
theorem d_Vals_set_4 : decode prog_16_method_2_code 4 = .ok (.iload_n 1, 1) := by decide +kernel
theorem d_Vals_set_5 : decode prog_16_method_2_code 5 = .ok (.iload_n 2, 1) := by decide +kernel
theorem d_Vals_set_6 : decode prog_16_method_2_code 6 = .ok (.iastore, 1) := by decide +kernel
theorem d_Vals_set_7 : decode prog_16_method_2_code 7 = .ok (.aload_n 0, 1) := by decide +kernel
theorem d_Vals_set_8 : decode prog_16_method_2_code 8 = .ok (.getfield 13, 3) := by decide +kernel
theorem d_Vals_set_11 : decode prog_16_method_2_code 11 = .ok (.iload_n 1, 1) := by decide +kernel
theorem d_Vals_set_12 : decode prog_16_method_2_code 12 = .ok (.iload_n 3, 1) := by decide +kernel
theorem d_Vals_set_13 : decode prog_16_method_2_code 13 = .ok (.iastore, 1) := by decide +kernel
theorem d_Vals_set_14 : decode prog_16_method_2_code 14 = .ok (.aload_n 0, 1) := by decide +kernel
theorem d_Vals_set_15 : decode prog_16_method_2_code 15 = .ok (.getfield 16, 3) := by decide +kernel
theorem d_Vals_set_18 : decode prog_16_method_2_code 18 = .ok (.iload_n 1, 1) := by decide +kernel
theorem d_Vals_set_19 : decode prog_16_method_2_code 19 = .ok (.lload 4, 2) := by decide +kernel
theorem d_Vals_set_21 : decode prog_16_method_2_code 21 = .ok (.lastore, 1) := by decide +kernel
theorem d_Vals_set_22 : decode prog_16_method_2_code 22 = .ok (.aload_n 0, 1) := by decide +kernel
theorem d_Vals_set_23 : decode prog_16_method_2_code 23 = .ok (.getfield 20, 3) := by decide +kernel
theorem d_Vals_set_26 : decode prog_16_method_2_code 26 = .ok (.iload_n 1, 1) := by decide +kernel
theorem d_Vals_set_27 : decode prog_16_method_2_code 27 = .ok (.lload 6, 2) := by decide +kernel
theorem d_Vals_set_29 : decode prog_16_method_2_code 29 = .ok (.lastore, 1) := by decide +kernel
theorem d_Vals_set_30 : decode prog_16_method_2_code 30 = .ok (.return_, 1) := by decide +kernel
abbrev m_Vals_sign : am_M := (⟨"StowTongueModel$Values", "sign", "(II)I"⟩, prog_16_method_5_code, 3, (some FieldType.int))
theorem d_Vals_sign_15 : decode prog_16_method_5_code 15 = .ok (.aload_n 0, 1) := by decide +kernel
theorem d_Vals_sign_16 : decode prog_16_method_5_code 16 = .ok (.getfield 20, 3) := by decide +kernel
theorem d_Vals_sign_19 : decode prog_16_method_5_code 19 = .ok (.iload_n 1, 1) := by decide +kernel
theorem d_Vals_sign_20 : decode prog_16_method_5_code 20 = .ok (.laload, 1) := by decide +kernel
theorem d_Vals_sign_21 : decode prog_16_method_5_code 21 = .ok (.bipush 8, 2) := by decide +kernel
theorem d_Vals_sign_23 : decode prog_16_method_5_code 23 = .ok (.iload_n 2, 1) := by decide +kernel
theorem d_Vals_sign_24 : decode prog_16_method_5_code 24 = .ok (.bipush 7, 2) := by decide +kernel
theorem d_Vals_sign_26 : decode prog_16_method_5_code 26 = .ok (.iand, 1) := by decide +kernel
theorem d_Vals_sign_27 : decode prog_16_method_5_code 27 = .ok (.imul, 1) := by decide +kernel
theorem d_Vals_sign_28 : decode prog_16_method_5_code 28 = .ok (.lushr, 1) := by decide +kernel
theorem d_Vals_sign_29 : decode prog_16_method_5_code 29 = .ok (.l2i, 1) := by decide +kernel
theorem d_Vals_sign_30 : decode prog_16_method_5_code 30 = .ok (.sipush 255, 3) := by decide +kernel
theorem d_Vals_sign_33 : decode prog_16_method_5_code 33 = .ok (.iand, 1) := by decide +kernel
theorem d_Vals_sign_34 : decode prog_16_method_5_code 34 = .ok (.ireturn, 1) := by decide +kernel
theorem d_Vals_sign_6 : decode prog_16_method_5_code 6 = .ok (.aload_n 0, 1) := by decide +kernel
theorem d_Vals_sign_7 : decode prog_16_method_5_code 7 = .ok (.getfield 16, 3) := by decide +kernel
theorem d_Vals_sign_10 : decode prog_16_method_5_code 10 = .ok (.iload_n 1, 1) := by decide +kernel
theorem d_Vals_sign_11 : decode prog_16_method_5_code 11 = .ok (.laload, 1) := by decide +kernel
theorem d_Vals_sign_12 : decode prog_16_method_5_code 12 = .ok (.goto 9, 3) := by decide +kernel
theorem d_Vals_sign_0 : decode prog_16_method_5_code 0 = .ok (.iload_n 2, 1) := by decide +kernel
theorem d_Vals_sign_1 : decode prog_16_method_5_code 1 = .ok (.bipush 8, 2) := by decide +kernel
theorem d_Vals_sign_3 : decode prog_16_method_5_code 3 = .ok (.if_icmp .ge 12, 3) := by decide +kernel
abbrev m_Vals_copy : am_M := (⟨"StowTongueModel$Values", "copy", "(ILStowTongueModel$Values;I)V"⟩, prog_16_method_3_code, 4, none)
theorem w_1995 : (Cond.methodLink "StowTongueModel$Values" 23 ⟨"StowTongueModel$Values", "set", "(IIIJJ)V"⟩ : Cond) ∈ am_tbl := am_w 1995 (by decide +kernel) (by decide +kernel)
set_option maxRecDepth 100000 in
theorem w_1916 : (Cond.code ⟨"StowTongueModel$Values", "set", "(IIIJJ)V"⟩ prog_16_method_2_code 8 none : Cond) ∈ am_tbl := am_w 1916 rfl rfl
theorem l_Vals_23 : am_L "StowTongueModel$Values" 23 5 m_Vals_set := ⟨Or.inl w_1995, w_162, w_1916, ⟨by decide, by decide⟩, by decide +kernel, by decide⟩
theorem d_Vals_copy_0 : decode prog_16_method_3_code 0 = .ok (.aload_n 0, 1) := by decide +kernel
theorem d_Vals_copy_1 : decode prog_16_method_3_code 1 = .ok (.iload_n 1, 1) := by decide +kernel
theorem d_Vals_copy_2 : decode prog_16_method_3_code 2 = .ok (.aload_n 2, 1) := by decide +kernel
theorem d_Vals_copy_3 : decode prog_16_method_3_code 3 = .ok (.getfield 7, 3) := by decide +kernel
theorem d_Vals_copy_6 : decode prog_16_method_3_code 6 = .ok (.iload_n 3, 1) := by decide +kernel
theorem d_Vals_copy_7 : decode prog_16_method_3_code 7 = .ok (.iaload, 1) := by decide +kernel
theorem d_Vals_copy_8 : decode prog_16_method_3_code 8 = .ok (.aload_n 2, 1) := by decide +kernel
theorem d_Vals_copy_9 : decode prog_16_method_3_code 9 = .ok (.getfield 13, 3) := by decide +kernel
theorem d_Vals_copy_12 : decode prog_16_method_3_code 12 = .ok (.iload_n 3, 1) := by decide +kernel
theorem d_Vals_copy_13 : decode prog_16_method_3_code 13 = .ok (.iaload, 1) := by decide +kernel
theorem d_Vals_copy_14 : decode prog_16_method_3_code 14 = .ok (.aload_n 2, 1) := by decide +kernel
theorem d_Vals_copy_15 : decode prog_16_method_3_code 15 = .ok (.getfield 16, 3) := by decide +kernel
theorem d_Vals_copy_18 : decode prog_16_method_3_code 18 = .ok (.iload_n 3, 1) := by decide +kernel
theorem d_Vals_copy_19 : decode prog_16_method_3_code 19 = .ok (.laload, 1) := by decide +kernel
theorem d_Vals_copy_20 : decode prog_16_method_3_code 20 = .ok (.aload_n 2, 1) := by decide +kernel
theorem d_Vals_copy_21 : decode prog_16_method_3_code 21 = .ok (.getfield 20, 3) := by decide +kernel
theorem d_Vals_copy_24 : decode prog_16_method_3_code 24 = .ok (.iload_n 3, 1) := by decide +kernel
theorem d_Vals_copy_25 : decode prog_16_method_3_code 25 = .ok (.laload, 1) := by decide +kernel
theorem w_1914 : (Cond.instanceMethod ⟨"StowTongueModel$Values", "set", "(IIIJJ)V"⟩ : Cond) ∈ am_tbl := am_w 1914 (by decide +kernel) (by decide +kernel)
theorem w_1915 : (Cond.selects "StowTongueModel$Values" ⟨"StowTongueModel$Values", "set", "(IIIJJ)V"⟩ ⟨"StowTongueModel$Values", "set", "(IIIJJ)V"⟩ : Cond) ∈ am_tbl := am_w 1915 (by decide +kernel) (by decide +kernel)
theorem d_Vals_copy_26 : decode prog_16_method_3_code 26 = .ok (.invokevirtual 23, 3) := by decide +kernel
theorem d_Vals_copy_29 : decode prog_16_method_3_code 29 = .ok (.return_, 1) := by decide +kernel
