abbrev m_Draft_clear : am_M := (⟨"StowTongue$Draft", "clear", "()V"⟩, prog_3_method_2_code, 1, none)
theorem d_Draft_clear_0 : decode prog_3_method_2_code 0 = .ok (.aload_n 0, 1) := by decide +kernel
theorem d_Draft_clear_1 : decode prog_3_method_2_code 1 = .ok (.iconst 0, 1) := by decide +kernel
theorem w_299 : (Cond.fieldLink "StowTongue$Draft" 20 "StowTongue$Draft" "size" "I" : Cond) ∈ am_tbl := am_w 299 (by decide +kernel) (by decide +kernel)
theorem f_Draft_20 : am_F "StowTongue$Draft" 20 2 1 := ⟨_, rfl, cl_2, by decide, Or.inl w_299⟩
theorem d_Draft_clear_2 : decode prog_3_method_2_code 2 = .ok (.putfield 20, 3) := by decide +kernel
theorem d_Draft_clear_5 : decode prog_3_method_2_code 5 = .ok (.aload_n 0, 1) := by decide +kernel
theorem d_Draft_clear_6 : decode prog_3_method_2_code 6 = .ok (.iconst 0, 1) := by decide +kernel
theorem w_301 : (Cond.fieldLink "StowTongue$Draft" 24 "StowTongue$Draft" "pooled" "I" : Cond) ∈ am_tbl := am_w 301 (by decide +kernel) (by decide +kernel)
theorem f_Draft_24 : am_F "StowTongue$Draft" 24 2 3 := ⟨_, rfl, cl_2, by decide, Or.inl w_301⟩
theorem d_Draft_clear_7 : decode prog_3_method_2_code 7 = .ok (.putfield 24, 3) := by decide +kernel
theorem d_Draft_clear_10 : decode prog_3_method_2_code 10 = .ok (.aload_n 0, 1) := by decide +kernel
theorem d_Draft_clear_11 : decode prog_3_method_2_code 11 = .ok (.iconst 0, 1) := by decide +kernel
theorem d_Draft_clear_12 : decode prog_3_method_2_code 12 = .ok (.putfield 27, 3) := by decide +kernel
theorem d_Draft_clear_15 : decode prog_3_method_2_code 15 = .ok (.return_, 1) := by decide +kernel
abbrev m_Draft_here : am_M := (⟨"StowTongue$Draft", "here", "()I"⟩, prog_3_method_4_code, 1, (some FieldType.int))
theorem d_Draft_here_0 : decode prog_3_method_4_code 0 = .ok (.aload_n 0, 1) := by decide +kernel
theorem d_Draft_here_1 : decode prog_3_method_4_code 1 = .ok (.getfield 20, 3) := by decide +kernel
theorem d_Draft_here_4 : decode prog_3_method_4_code 4 = .ok (.iconst 2, 1) := by decide +kernel
theorem d_Draft_here_5 : decode prog_3_method_4_code 5 = .ok (.idiv, 1) := by decide +kernel
theorem d_Draft_here_6 : decode prog_3_method_4_code 6 = .ok (.ireturn, 1) := by decide +kernel
