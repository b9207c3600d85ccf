abbrev m_Out_clear : am_M := (⟨"StowTongue$Out", "clear", "()V"⟩, prog_7_method_2_code, 1, none)
theorem d_Out_clear_0 : decode prog_7_method_2_code 0 = .ok (.aload_n 0, 1) := by decide +kernel
theorem d_Out_clear_1 : decode prog_7_method_2_code 1 = .ok (.iconst 0, 1) := by decide +kernel
theorem w_186 : (Cond.fieldLink "StowTongue$Out" 15 "StowTongue$Out" "size" "I" : Cond) ∈ am_tbl := am_w 186 (by decide +kernel) (by decide +kernel)
theorem f_Out_15 : am_F "StowTongue$Out" 15 0 1 := ⟨_, rfl, cl_0, by decide, Or.inl w_186⟩
theorem d_Out_clear_2 : decode prog_7_method_2_code 2 = .ok (.putfield 15, 3) := by decide +kernel
theorem d_Out_clear_5 : decode prog_7_method_2_code 5 = .ok (.aload_n 0, 1) := by decide +kernel
theorem d_Out_clear_6 : decode prog_7_method_2_code 6 = .ok (.iconst 0, 1) := by decide +kernel
theorem w_187 : (Cond.fieldLink "StowTongue$Out" 19 "StowTongue$Out" "spilled" "Z" : Cond) ∈ am_tbl := am_w 187 (by decide +kernel) (by decide +kernel)
theorem f_Out_19 : am_F "StowTongue$Out" 19 0 2 := ⟨_, rfl, cl_0, by decide, Or.inl w_187⟩
theorem d_Out_clear_7 : decode prog_7_method_2_code 7 = .ok (.putfield 19, 3) := by decide +kernel
theorem d_Out_clear_10 : decode prog_7_method_2_code 10 = .ok (.return_, 1) := by decide +kernel
abbrev m_Out_size : am_M := (⟨"StowTongue$Out", "size", "()I"⟩, prog_7_method_3_code, 1, (some FieldType.int))
theorem d_Out_size_0 : decode prog_7_method_3_code 0 = .ok (.aload_n 0, 1) := by decide +kernel
theorem d_Out_size_1 : decode prog_7_method_3_code 1 = .ok (.getfield 15, 3) := by decide +kernel
theorem d_Out_size_4 : decode prog_7_method_3_code 4 = .ok (.ireturn, 1) := by decide +kernel
abbrev m_Out_add : am_M := (⟨"StowTongue$Out", "add", "(I)V"⟩, prog_7_method_6_code, 2, none)
theorem d_Out_add_34 : decode prog_7_method_6_code 34 = .ok (.aload_n 0, 1) := by decide +kernel
theorem d_Out_add_35 : decode prog_7_method_6_code 35 = .ok (.iconst 1, 1) := by decide +kernel
theorem d_Out_add_36 : decode prog_7_method_6_code 36 = .ok (.putfield 19, 3) := by decide +kernel
theorem d_Out_add_39 : decode prog_7_method_6_code 39 = .ok (.return_, 1) := by decide +kernel
theorem d_Out_add_10 : decode prog_7_method_6_code 10 = .ok (.aload_n 0, 1) := by decide +kernel
theorem d_Out_add_11 : decode prog_7_method_6_code 11 = .ok (.getfield 11, 3) := by decide +kernel
theorem d_Out_add_14 : decode prog_7_method_6_code 14 = .ok (.aload_n 0, 1) := by decide +kernel
theorem d_Out_add_15 : decode prog_7_method_6_code 15 = .ok (.getfield 15, 3) := by decide +kernel
theorem d_Out_add_18 : decode prog_7_method_6_code 18 = .ok (.iload_n 1, 1) := by decide +kernel
theorem d_Out_add_19 : decode prog_7_method_6_code 19 = .ok (.i2b, 1) := by decide +kernel
theorem d_Out_add_20 : decode prog_7_method_6_code 20 = .ok (.bastore, 1) := by decide +kernel
theorem d_Out_add_21 : decode prog_7_method_6_code 21 = .ok (.aload_n 0, 1) := by decide +kernel
theorem d_Out_add_22 : decode prog_7_method_6_code 22 = .ok (.dup, 1) := by decide +kernel
theorem d_Out_add_23 : decode prog_7_method_6_code 23 = .ok (.getfield 15, 3) := by decide +kernel
theorem d_Out_add_26 : decode prog_7_method_6_code 26 = .ok (.iconst 1, 1) := by decide +kernel
theorem d_Out_add_27 : decode prog_7_method_6_code 27 = .ok (.iadd, 1) := by decide +kernel
theorem d_Out_add_28 : decode prog_7_method_6_code 28 = .ok (.putfield 15, 3) := by decide +kernel
theorem d_Out_add_31 : decode prog_7_method_6_code 31 = .ok (.goto 8, 3) := by decide +kernel
theorem d_Out_add_0 : decode prog_7_method_6_code 0 = .ok (.aload_n 0, 1) := by decide +kernel
theorem d_Out_add_1 : decode prog_7_method_6_code 1 = .ok (.getfield 15, 3) := by decide +kernel
theorem d_Out_add_4 : decode prog_7_method_6_code 4 = .ok (.sipush 600, 3) := by decide +kernel
theorem d_Out_add_7 : decode prog_7_method_6_code 7 = .ok (.if_icmp .ge 27, 3) := by decide +kernel
