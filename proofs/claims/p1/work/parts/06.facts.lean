abbrev m_Vals_init : am_M := (⟨"StowTongueModel$Values", "<init>", "(I)V"⟩, prog_16_method_1_code, 2, none)
theorem d_Vals_init_32 : decode prog_16_method_1_code 32 = .ok (.return_, 1) := by decide +kernel
theorem d_Vals_init_0 : decode prog_16_method_1_code 0 = .ok (.aload_n 0, 1) := by decide +kernel
theorem d_Vals_init_1 : decode prog_16_method_1_code 1 = .ok (.invokespecial 1, 3) := by decide +kernel
theorem w_1500 : (Cond.methodLink "StowTongueModel$Values" 1 ⟨"java/lang/Object", "<init>", "()V"⟩ : Cond) ∈ am_tbl := am_w 1500 (by decide +kernel) (by decide +kernel)
theorem w_177 : (Cond.instanceMethod ⟨"java/lang/Object", "<init>", "()V"⟩ : Cond) ∈ am_tbl := am_w 177 (by decide +kernel) (by decide +kernel)
theorem w_178 : (Cond.code ⟨"java/lang/Object", "<init>", "()V"⟩ object_method_1_code 1 none : Cond) ∈ am_tbl := am_w 178 (by decide +kernel) (by decide +kernel)
theorem d_Vals_init_4 : decode prog_16_method_1_code 4 = .ok (.aload_n 0, 1) := by decide +kernel
theorem d_Vals_init_5 : decode prog_16_method_1_code 5 = .ok (.iload_n 1, 1) := by decide +kernel
theorem d_Vals_init_6 : decode prog_16_method_1_code 6 = .ok (.newarray .int, 2) := by decide +kernel
theorem w_317 : (Cond.arrayClass FieldType.int : Cond) ∈ am_tbl := am_w 317 (by decide +kernel) (by decide +kernel)
theorem d_Vals_init_8 : decode prog_16_method_1_code 8 = .ok (.putfield 7, 3) := by decide +kernel
theorem cl_11 : am_Cl ("StowTongueModel$Values", TC11, 4) := ⟨am_in_r [1512, 1514, 1516, 1518] (by decide +kernel) (by decide +kernel), by decide +kernel, by decide +kernel⟩
theorem w_1501 : (Cond.fieldLink "StowTongueModel$Values" 7 "StowTongueModel$Values" "kind" "[I" : Cond) ∈ am_tbl := am_w 1501 (by decide +kernel) (by decide +kernel)
theorem f_Vals_7 : am_F "StowTongueModel$Values" 7 11 0 := ⟨_, rfl, cl_11, by decide, Or.inl w_1501⟩
theorem d_Vals_init_11 : decode prog_16_method_1_code 11 = .ok (.aload_n 0, 1) := by decide +kernel
theorem d_Vals_init_12 : decode prog_16_method_1_code 12 = .ok (.iload_n 1, 1) := by decide +kernel
theorem d_Vals_init_13 : decode prog_16_method_1_code 13 = .ok (.newarray .int, 2) := by decide +kernel
theorem d_Vals_init_15 : decode prog_16_method_1_code 15 = .ok (.putfield 13, 3) := by decide +kernel
theorem w_1504 : (Cond.fieldLink "StowTongueModel$Values" 13 "StowTongueModel$Values" "size" "[I" : Cond) ∈ am_tbl := am_w 1504 (by decide +kernel) (by decide +kernel)
theorem f_Vals_13 : am_F "StowTongueModel$Values" 13 11 1 := ⟨_, rfl, cl_11, by decide, Or.inl w_1504⟩
theorem d_Vals_init_18 : decode prog_16_method_1_code 18 = .ok (.aload_n 0, 1) := by decide +kernel
theorem d_Vals_init_19 : decode prog_16_method_1_code 19 = .ok (.iload_n 1, 1) := by decide +kernel
theorem d_Vals_init_20 : decode prog_16_method_1_code 20 = .ok (.newarray .long, 2) := by decide +kernel
theorem w_291 : (Cond.arrayClass FieldType.long : Cond) ∈ am_tbl := am_w 291 (by decide +kernel) (by decide +kernel)
theorem d_Vals_init_22 : decode prog_16_method_1_code 22 = .ok (.putfield 16, 3) := by decide +kernel
theorem w_1507 : (Cond.fieldLink "StowTongueModel$Values" 16 "StowTongueModel$Values" "one" "[J" : Cond) ∈ am_tbl := am_w 1507 (by decide +kernel) (by decide +kernel)
theorem f_Vals_16 : am_F "StowTongueModel$Values" 16 11 2 := ⟨_, rfl, cl_11, by decide, Or.inl w_1507⟩
theorem d_Vals_init_25 : decode prog_16_method_1_code 25 = .ok (.aload_n 0, 1) := by decide +kernel
theorem d_Vals_init_26 : decode prog_16_method_1_code 26 = .ok (.iload_n 1, 1) := by decide +kernel
theorem d_Vals_init_27 : decode prog_16_method_1_code 27 = .ok (.newarray .long, 2) := by decide +kernel
theorem d_Vals_init_29 : decode prog_16_method_1_code 29 = .ok (.putfield 20, 3) := by decide +kernel
theorem w_1510 : (Cond.fieldLink "StowTongueModel$Values" 20 "StowTongueModel$Values" "two" "[J" : Cond) ∈ am_tbl := am_w 1510 (by decide +kernel) (by decide +kernel)
theorem f_Vals_20 : am_F "StowTongueModel$Values" 20 11 3 := ⟨_, rfl, cl_11, by decide, Or.inl w_1510⟩
