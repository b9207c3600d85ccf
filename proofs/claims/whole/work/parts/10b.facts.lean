set_option maxRecDepth 100000 in
theorem d_Unit_init_23 : decode prog_11_method_1_code 23 = .ok (.putfield 20, 3) := by decide +kernel
set_option maxRecDepth 100000 in
theorem w_353 : (Cond.fieldLink "StowTongue$Unit" 20 "StowTongue$Unit" "tokens" "I" : Cond) ∈ am_tbl := am_w 353 (by decide +kernel) (by decide +kernel)
set_option maxRecDepth 100000 in
theorem f_Unit_20 : am_F "StowTongue$Unit" 20 4 3 := ⟨_, rfl, cl_4, by decide, Or.inl w_353⟩
set_option maxRecDepth 100000 in
theorem d_Unit_init_26 : decode prog_11_method_1_code 26 = .ok (.aload_n 0, 1) := by decide +kernel
set_option maxRecDepth 100000 in
theorem d_Unit_init_27 : decode prog_11_method_1_code 27 = .ok (.aload 6, 2) := by decide +kernel
set_option maxRecDepth 100000 in
theorem d_Unit_init_29 : decode prog_11_method_1_code 29 = .ok (.putfield 23, 3) := by decide +kernel
set_option maxRecDepth 100000 in
theorem w_354 : (Cond.fieldLink "StowTongue$Unit" 23 "StowTongue$Unit" "code" "[I" : Cond) ∈ am_tbl := am_w 354 (by decide +kernel) (by decide +kernel)
set_option maxRecDepth 100000 in
theorem f_Unit_23 : am_F "StowTongue$Unit" 23 4 4 := ⟨_, rfl, cl_4, by decide, Or.inl w_354⟩
set_option maxRecDepth 100000 in
theorem d_Unit_init_32 : decode prog_11_method_1_code 32 = .ok (.aload_n 0, 1) := by decide +kernel
set_option maxRecDepth 100000 in
theorem d_Unit_init_33 : decode prog_11_method_1_code 33 = .ok (.aload 7, 2) := by decide +kernel
set_option maxRecDepth 100000 in
theorem d_Unit_init_35 : decode prog_11_method_1_code 35 = .ok (.putfield 27, 3) := by decide +kernel
set_option maxRecDepth 100000 in
theorem w_355 : (Cond.fieldLink "StowTongue$Unit" 27 "StowTongue$Unit" "pool" "[J" : Cond) ∈ am_tbl := am_w 355 (by decide +kernel) (by decide +kernel)
set_option maxRecDepth 100000 in
theorem f_Unit_27 : am_F "StowTongue$Unit" 27 4 5 := ⟨_, rfl, cl_4, by decide, Or.inl w_355⟩
set_option maxRecDepth 100000 in
theorem d_Unit_init_38 : decode prog_11_method_1_code 38 = .ok (.return_, 1) := by decide +kernel
set_option maxRecDepth 100000 in
abbrev m_Lexer_init : am_M := (⟨"StowTongue$Lexer", "<init>", "()V"⟩, prog_4_method_1_code, 5, none)
set_option maxRecDepth 100000 in
theorem d_Lexer_init_87 : decode prog_4_method_1_code 87 = .ok (.return_, 1) := by decide +kernel
set_option maxRecDepth 100000 in
theorem d_Lexer_init_25 : decode prog_4_method_1_code 25 = .ok (.iload_n 3, 1) := by decide +kernel
set_option maxRecDepth 100000 in
theorem d_Lexer_init_26 : decode prog_4_method_1_code 26 = .ok (.ldc 19, 2) := by decide +kernel
set_option maxRecDepth 100000 in
theorem w_209 : (Cond.methodLink "StowTongue$Lexer" 21 ⟨"java/lang/String", "length", "()I"⟩ : Cond) ∈ am_tbl := am_w 209 (by decide +kernel) (by decide +kernel)
set_option maxRecDepth 100000 in
theorem w_212 : (Cond.code ⟨"java/lang/String", "length", "()I"⟩ prog_22_method_54_code 1 (some FieldType.int) : Cond) ∈ am_tbl := am_w 212 rfl rfl
set_option maxRecDepth 100000 in
theorem l_Lexer_21 : am_L "StowTongue$Lexer" 21 0 m_Str_length := ⟨Or.inl w_209, w_147, w_212, ⟨by decide, by decide⟩, by decide +kernel, by decide⟩
set_option maxRecDepth 100000 in
theorem w_210 : (Cond.instanceMethod ⟨"java/lang/String", "length", "()I"⟩ : Cond) ∈ am_tbl := am_w 210 (by decide +kernel) (by decide +kernel)
set_option maxRecDepth 100000 in
theorem w_211 : (Cond.selects "java/lang/String" ⟨"java/lang/String", "length", "()I"⟩ ⟨"java/lang/String", "length", "()I"⟩ : Cond) ∈ am_tbl := am_w 211 (by decide +kernel) (by decide +kernel)
set_option maxRecDepth 100000 in
theorem d_Lexer_init_28 : decode prog_4_method_1_code 28 = .ok (.invokevirtual 21, 3) := by decide +kernel
set_option maxRecDepth 100000 in
theorem d_Lexer_init_31 : decode prog_4_method_1_code 31 = .ok (.if_icmp .ge 56, 3) := by decide +kernel
set_option maxRecDepth 100000 in
theorem d_Lexer_init_34 : decode prog_4_method_1_code 34 = .ok (.iload_n 1, 1) := by decide +kernel
set_option maxRecDepth 100000 in
theorem d_Lexer_init_35 : decode prog_4_method_1_code 35 = .ok (.bipush 12, 2) := by decide +kernel
set_option maxRecDepth 100000 in
theorem d_Lexer_init_37 : decode prog_4_method_1_code 37 = .ok (.if_icmp .ge 50, 3) := by decide +kernel
set_option maxRecDepth 100000 in
theorem d_Lexer_init_40 : decode prog_4_method_1_code 40 = .ok (.ldc 19, 2) := by decide +kernel
set_option maxRecDepth 100000 in
theorem d_Lexer_init_42 : decode prog_4_method_1_code 42 = .ok (.iload_n 3, 1) := by decide +kernel
set_option maxRecDepth 100000 in
theorem w_219 : (Cond.methodLink "StowTongue$Lexer" 27 ⟨"java/lang/String", "charAt", "(I)C"⟩ : Cond) ∈ am_tbl := am_w 219 (by decide +kernel) (by decide +kernel)
set_option maxRecDepth 100000 in
theorem w_222 : (Cond.code ⟨"java/lang/String", "charAt", "(I)C"⟩ prog_22_method_56_code 2 (some FieldType.char) : Cond) ∈ am_tbl := am_w 222 rfl rfl
set_option maxRecDepth 100000 in
theorem l_Lexer_27 : am_L "StowTongue$Lexer" 27 1 m_Str_charAt := ⟨Or.inl w_219, w_147, w_222, ⟨by decide, by decide⟩, by decide +kernel, by decide⟩
set_option maxRecDepth 100000 in
theorem w_220 : (Cond.instanceMethod ⟨"java/lang/String", "charAt", "(I)C"⟩ : Cond) ∈ am_tbl := am_w 220 (by decide +kernel) (by decide +kernel)
set_option maxRecDepth 100000 in
theorem w_221 : (Cond.selects "java/lang/String" ⟨"java/lang/String", "charAt", "(I)C"⟩ ⟨"java/lang/String", "charAt", "(I)C"⟩ : Cond) ∈ am_tbl := am_w 221 (by decide +kernel) (by decide +kernel)
set_option maxRecDepth 100000 in
theorem d_Lexer_init_43 : decode prog_4_method_1_code 43 = .ok (.invokevirtual 27, 3) := by decide +kernel
set_option maxRecDepth 100000 in
theorem d_Lexer_init_46 : decode prog_4_method_1_code 46 = .ok (.istore 4, 2) := by decide +kernel
set_option maxRecDepth 100000 in
theorem d_Lexer_init_48 : decode prog_4_method_1_code 48 = .ok (.iload 4, 2) := by decide +kernel
set_option maxRecDepth 100000 in
theorem d_Lexer_init_50 : decode prog_4_method_1_code 50 = .ok (.bipush 32, 2) := by decide +kernel
set_option maxRecDepth 100000 in
theorem d_Lexer_init_52 : decode prog_4_method_1_code 52 = .ok (.if_icmp .ne 11, 3) := by decide +kernel
set_option maxRecDepth 100000 in
theorem d_Lexer_init_63 : decode prog_4_method_1_code 63 = .ok (.aload_n 0, 1) := by decide +kernel
set_option maxRecDepth 100000 in
theorem d_Lexer_init_64 : decode prog_4_method_1_code 64 = .ok (.getfield 11, 3) := by decide +kernel
set_option maxRecDepth 100000 in
theorem cl_1 : am_Cl ("StowTongue$Lexer", TC1, 10) := ⟨am_in_r [270, 272, 274, 276, 278, 280, 282, 284, 286, 288] (by decide +kernel) (by decide +kernel), by decide +kernel, by decide +kernel⟩
set_option maxRecDepth 100000 in
theorem w_260 : (Cond.fieldLink "StowTongue$Lexer" 11 "StowTongue$Lexer" "words" "[J" : Cond) ∈ am_tbl := am_w 260 (by decide +kernel) (by decide +kernel)
set_option maxRecDepth 100000 in
theorem f_Lexer_11 : am_F "StowTongue$Lexer" 11 1 0 := ⟨_, rfl, cl_1, by decide, Or.inl w_260⟩
set_option maxRecDepth 100000 in
theorem d_Lexer_init_67 : decode prog_4_method_1_code 67 = .ok (.iload_n 1, 1) := by decide +kernel
set_option maxRecDepth 100000 in
theorem d_Lexer_init_68 : decode prog_4_method_1_code 68 = .ok (.dup2, 1) := by decide +kernel
set_option maxRecDepth 100000 in
theorem d_Lexer_init_69 : decode prog_4_method_1_code 69 = .ok (.laload, 1) := by decide +kernel
set_option maxRecDepth 100000 in
theorem d_Lexer_init_70 : decode prog_4_method_1_code 70 = .ok (.iload 4, 2) := by decide +kernel
set_option maxRecDepth 100000 in
theorem d_Lexer_init_72 : decode prog_4_method_1_code 72 = .ok (.iload_n 2, 1) := by decide +kernel
set_option maxRecDepth 100000 in
theorem d_Lexer_init_73 : decode prog_4_method_1_code 73 = .ok (.invokestatic 31, 3) := by decide +kernel
set_option maxRecDepth 100000 in
theorem w_257 : (Cond.methodLink "StowTongue$Lexer" 31 ⟨"StowTongue$Cell", "placed", "(II)J"⟩ : Cond) ∈ am_tbl := am_w 257 (by decide +kernel) (by decide +kernel)
set_option maxRecDepth 100000 in
theorem w_151 : (Cond.initialized "StowTongue$Cell" : Cond) ∈ am_tbl := am_w 151 (by decide +kernel) (by decide +kernel)
set_option maxRecDepth 100000 in
theorem w_259 : (Cond.code ⟨"StowTongue$Cell", "placed", "(II)J"⟩ prog_2_method_6_code 2 (some FieldType.long) : Cond) ∈ am_tbl := am_w 259 rfl rfl
set_option maxRecDepth 100000 in
theorem l_Lexer_31 : am_L "StowTongue$Lexer" 31 2 m_Cell_placed := ⟨Or.inl w_257, w_151, w_259, ⟨by decide, by decide⟩, by decide +kernel, by decide⟩
set_option maxRecDepth 100000 in
theorem w_258 : (Cond.static ⟨"StowTongue$Cell", "placed", "(II)J"⟩ : Cond) ∈ am_tbl := am_w 258 (by decide +kernel) (by decide +kernel)
set_option maxRecDepth 100000 in
theorem d_Lexer_init_76 : decode prog_4_method_1_code 76 = .ok (.lor, 1) := by decide +kernel
set_option maxRecDepth 100000 in
theorem d_Lexer_init_77 : decode prog_4_method_1_code 77 = .ok (.lastore, 1) := by decide +kernel
set_option maxRecDepth 100000 in
theorem d_Lexer_init_78 : decode prog_4_method_1_code 78 = .ok (.iinc 2 1, 3) := by decide +kernel
set_option maxRecDepth 100000 in
theorem d_Lexer_init_81 : decode prog_4_method_1_code 81 = .ok (.iinc 3 1, 3) := by decide +kernel
set_option maxRecDepth 100000 in
theorem d_Lexer_init_84 : decode prog_4_method_1_code 84 = .ok (.goto (-59), 3) := by decide +kernel
set_option maxRecDepth 100000 in
theorem d_Lexer_init_55 : decode prog_4_method_1_code 55 = .ok (.iinc 1 1, 3) := by decide +kernel
set_option maxRecDepth 100000 in
theorem d_Lexer_init_58 : decode prog_4_method_1_code 58 = .ok (.iconst 0, 1) := by decide +kernel
set_option maxRecDepth 100000 in
theorem d_Lexer_init_59 : decode prog_4_method_1_code 59 = .ok (.istore_n 2, 1) := by decide +kernel
set_option maxRecDepth 100000 in
theorem d_Lexer_init_60 : decode prog_4_method_1_code 60 = .ok (.goto 21, 3) := by decide +kernel
set_option maxRecDepth 100000 in
theorem d_Lexer_init_0 : decode prog_4_method_1_code 0 = .ok (.aload_n 0, 1) := by decide +kernel
set_option maxRecDepth 100000 in
theorem d_Lexer_init_1 : decode prog_4_method_1_code 1 = .ok (.invokespecial 3, 3) := by decide +kernel
set_option maxRecDepth 100000 in
theorem w_207 : (Cond.methodLink "StowTongue$Lexer" 3 ⟨"java/lang/Object", "<init>", "()V"⟩ : Cond) ∈ am_tbl := am_w 207 (by decide +kernel) (by decide +kernel)
set_option maxRecDepth 100000 in
theorem d_Lexer_init_4 : decode prog_4_method_1_code 4 = .ok (.aload_n 0, 1) := by decide +kernel
set_option maxRecDepth 100000 in
theorem d_Lexer_init_5 : decode prog_4_method_1_code 5 = .ok (.bipush 12, 2) := by decide +kernel
set_option maxRecDepth 100000 in
theorem d_Lexer_init_7 : decode prog_4_method_1_code 7 = .ok (.newarray .long, 2) := by decide +kernel
set_option maxRecDepth 100000 in
theorem d_Lexer_init_9 : decode prog_4_method_1_code 9 = .ok (.putfield 11, 3) := by decide +kernel
set_option maxRecDepth 100000 in
theorem d_Lexer_init_12 : decode prog_4_method_1_code 12 = .ok (.aload_n 0, 1) := by decide +kernel
set_option maxRecDepth 100000 in
theorem d_Lexer_init_13 : decode prog_4_method_1_code 13 = .ok (.iconst 0, 1) := by decide +kernel
set_option maxRecDepth 100000 in
theorem d_Lexer_init_14 : decode prog_4_method_1_code 14 = .ok (.newarray .byte, 2) := by decide +kernel
set_option maxRecDepth 100000 in
theorem d_Lexer_init_16 : decode prog_4_method_1_code 16 = .ok (.putfield 15, 3) := by decide +kernel
set_option maxRecDepth 100000 in
theorem w_261 : (Cond.fieldLink "StowTongue$Lexer" 15 "StowTongue$Lexer" "text" "[B" : Cond) ∈ am_tbl := am_w 261 (by decide +kernel) (by decide +kernel)
set_option maxRecDepth 100000 in
theorem f_Lexer_15 : am_F "StowTongue$Lexer" 15 1 1 := ⟨_, rfl, cl_1, by decide, Or.inl w_261⟩
set_option maxRecDepth 100000 in
theorem d_Lexer_init_19 : decode prog_4_method_1_code 19 = .ok (.iconst 0, 1) := by decide +kernel
set_option maxRecDepth 100000 in
theorem d_Lexer_init_20 : decode prog_4_method_1_code 20 = .ok (.istore_n 1, 1) := by decide +kernel
set_option maxRecDepth 100000 in
theorem d_Lexer_init_21 : decode prog_4_method_1_code 21 = .ok (.iconst 0, 1) := by decide +kernel
set_option maxRecDepth 100000 in
theorem d_Lexer_init_22 : decode prog_4_method_1_code 22 = .ok (.istore_n 2, 1) := by decide +kernel
set_option maxRecDepth 100000 in
theorem d_Lexer_init_23 : decode prog_4_method_1_code 23 = .ok (.iconst 0, 1) := by decide +kernel
set_option maxRecDepth 100000 in
theorem d_Lexer_init_24 : decode prog_4_method_1_code 24 = .ok (.istore_n 3, 1) := by decide +kernel
set_option maxRecDepth 100000 in
abbrev m_Pars_init : am_M := (⟨"StowTongue$Parser", "<init>", "()V"⟩, prog_8_method_1_code, 1, none)
set_option maxRecDepth 100000 in
theorem d_Pars_init_0 : decode prog_8_method_1_code 0 = .ok (.aload_n 0, 1) := by decide +kernel
set_option maxRecDepth 100000 in
theorem d_Pars_init_1 : decode prog_8_method_1_code 1 = .ok (.invokespecial 3, 3) := by decide +kernel
set_option maxRecDepth 100000 in
theorem w_201 : (Cond.methodLink "StowTongue$Parser" 3 ⟨"java/lang/Object", "<init>", "()V"⟩ : Cond) ∈ am_tbl := am_w 201 (by decide +kernel) (by decide +kernel)
set_option maxRecDepth 100000 in
theorem d_Pars_init_4 : decode prog_8_method_1_code 4 = .ok (.aload_n 0, 1) := by decide +kernel
set_option maxRecDepth 100000 in
theorem d_Pars_init_5 : decode prog_8_method_1_code 5 = .ok (.new 9, 3) := by decide +kernel
set_option maxRecDepth 100000 in
theorem w_202 : (Cond.classLink "StowTongue$Parser" 9 "StowTongue$Lexer" : Cond) ∈ am_tbl := am_w 202 (by decide +kernel) (by decide +kernel)
set_option maxRecDepth 100000 in
theorem w_203 : (Cond.instantiable "StowTongue$Lexer" 10 : Cond) ∈ am_tbl := am_w 203 (by decide +kernel) (by decide +kernel)
set_option maxRecDepth 100000 in
theorem w_146 : (Cond.initialized "StowTongue$Lexer" : Cond) ∈ am_tbl := am_w 146 (by decide +kernel) (by decide +kernel)
set_option maxRecDepth 100000 in
theorem n_Pars_9 : am_N "StowTongue$Parser" 9 1 10 [.null, .null, .int 0, .int 0, .int 0, .int 0, .int 0, .int 0, .long 0, .long 0] := ⟨_, rfl, cl_1, rfl, by decide +kernel, w_202, w_203, w_146⟩
set_option maxRecDepth 100000 in
theorem d_Pars_init_8 : decode prog_8_method_1_code 8 = .ok (.dup, 1) := by decide +kernel
set_option maxRecDepth 100000 in
theorem d_Pars_init_9 : decode prog_8_method_1_code 9 = .ok (.invokespecial 11, 3) := by decide +kernel
set_option maxRecDepth 100000 in
theorem w_204 : (Cond.methodLink "StowTongue$Parser" 11 ⟨"StowTongue$Lexer", "<init>", "()V"⟩ : Cond) ∈ am_tbl := am_w 204 (by decide +kernel) (by decide +kernel)
set_option maxRecDepth 100000 in
theorem w_206 : (Cond.code ⟨"StowTongue$Lexer", "<init>", "()V"⟩ prog_4_method_1_code 5 none : Cond) ∈ am_tbl := am_w 206 rfl rfl
set_option maxRecDepth 100000 in
theorem l_Pars_11 : am_L "StowTongue$Parser" 11 0 m_Lexer_init := ⟨Or.inl w_204, w_146, w_206, ⟨by decide, by decide⟩, by decide +kernel, by decide⟩
set_option maxRecDepth 100000 in
theorem w_205 : (Cond.instanceMethod ⟨"StowTongue$Lexer", "<init>", "()V"⟩ : Cond) ∈ am_tbl := am_w 205 (by decide +kernel) (by decide +kernel)
set_option maxRecDepth 100000 in
theorem cl_5 : am_Cl ("StowTongue$Parser", TC5, 8) := ⟨am_in_r [377, 379, 381, 383, 385, 387, 389, 391] (by decide +kernel) (by decide +kernel), by decide +kernel, by decide +kernel⟩
set_option maxRecDepth 100000 in
theorem w_369 : (Cond.fieldLink "StowTongue$Parser" 12 "StowTongue$Parser" "lexer" "LStowTongue$Lexer;" : Cond) ∈ am_tbl := am_w 369 (by decide +kernel) (by decide +kernel)
set_option maxRecDepth 100000 in
theorem f_Pars_12 : am_F "StowTongue$Parser" 12 5 0 := ⟨_, rfl, cl_5, by decide, Or.inl w_369⟩
set_option maxRecDepth 100000 in
theorem d_Pars_init_12 : decode prog_8_method_1_code 12 = .ok (.putfield 12, 3) := by decide +kernel
set_option maxRecDepth 100000 in
theorem d_Pars_init_15 : decode prog_8_method_1_code 15 = .ok (.aload_n 0, 1) := by decide +kernel
set_option maxRecDepth 100000 in
theorem d_Pars_init_16 : decode prog_8_method_1_code 16 = .ok (.new 18, 3) := by decide +kernel
set_option maxRecDepth 100000 in
theorem w_292 : (Cond.classLink "StowTongue$Parser" 18 "StowTongue$Draft" : Cond) ∈ am_tbl := am_w 292 (by decide +kernel) (by decide +kernel)
set_option maxRecDepth 100000 in
theorem w_293 : (Cond.instantiable "StowTongue$Draft" 6 : Cond) ∈ am_tbl := am_w 293 (by decide +kernel) (by decide +kernel)
set_option maxRecDepth 100000 in
theorem w_152 : (Cond.initialized "StowTongue$Draft" : Cond) ∈ am_tbl := am_w 152 (by decide +kernel) (by decide +kernel)
set_option maxRecDepth 100000 in
theorem n_Pars_18 : am_N "StowTongue$Parser" 18 2 6 [.null, .int 0, .null, .int 0, .null, .int 0] := ⟨_, rfl, cl_2, rfl, by decide +kernel, w_292, w_293, w_152⟩
set_option maxRecDepth 100000 in
theorem d_Pars_init_19 : decode prog_8_method_1_code 19 = .ok (.dup, 1) := by decide +kernel
set_option maxRecDepth 100000 in
theorem d_Pars_init_20 : decode prog_8_method_1_code 20 = .ok (.invokespecial 20, 3) := by decide +kernel
set_option maxRecDepth 100000 in
theorem w_296 : (Cond.code ⟨"StowTongue$Draft", "<init>", "()V"⟩ prog_3_method_1_code 1 none : Cond) ∈ am_tbl := am_w 296 rfl rfl
set_option maxRecDepth 100000 in
theorem l_Pars_20 : am_L "StowTongue$Parser" 20 0 m_Draft_init := ⟨Or.inr ⟨"StowTongue", List.mem_of_getElem? (i := 294) (by decide +kernel)⟩, w_152, w_296, ⟨by decide, by decide⟩, by decide +kernel, by decide⟩
set_option maxRecDepth 100000 in
theorem w_295 : (Cond.instanceMethod ⟨"StowTongue$Draft", "<init>", "()V"⟩ : Cond) ∈ am_tbl := am_w 295 (by decide +kernel) (by decide +kernel)
set_option maxRecDepth 100000 in
theorem w_370 : (Cond.fieldLink "StowTongue$Parser" 21 "StowTongue$Parser" "main" "LStowTongue$Draft;" : Cond) ∈ am_tbl := am_w 370 (by decide +kernel) (by decide +kernel)
set_option maxRecDepth 100000 in
theorem f_Pars_21 : am_F "StowTongue$Parser" 21 5 1 := ⟨_, rfl, cl_5, by decide, Or.inl w_370⟩
set_option maxRecDepth 100000 in
theorem d_Pars_init_23 : decode prog_8_method_1_code 23 = .ok (.putfield 21, 3) := by decide +kernel
set_option maxRecDepth 100000 in
theorem d_Pars_init_26 : decode prog_8_method_1_code 26 = .ok (.aload_n 0, 1) := by decide +kernel
set_option maxRecDepth 100000 in
theorem d_Pars_init_27 : decode prog_8_method_1_code 27 = .ok (.new 18, 3) := by decide +kernel
set_option maxRecDepth 100000 in
theorem d_Pars_init_30 : decode prog_8_method_1_code 30 = .ok (.dup, 1) := by decide +kernel
set_option maxRecDepth 100000 in
theorem d_Pars_init_31 : decode prog_8_method_1_code 31 = .ok (.invokespecial 20, 3) := by decide +kernel
set_option maxRecDepth 100000 in
theorem w_371 : (Cond.fieldLink "StowTongue$Parser" 25 "StowTongue$Parser" "body" "LStowTongue$Draft;" : Cond) ∈ am_tbl := am_w 371 (by decide +kernel) (by decide +kernel)
set_option maxRecDepth 100000 in
theorem f_Pars_25 : am_F "StowTongue$Parser" 25 5 2 := ⟨_, rfl, cl_5, by decide, Or.inl w_371⟩
set_option maxRecDepth 100000 in
theorem d_Pars_init_34 : decode prog_8_method_1_code 34 = .ok (.putfield 25, 3) := by decide +kernel
set_option maxRecDepth 100000 in
theorem d_Pars_init_37 : decode prog_8_method_1_code 37 = .ok (.aload_n 0, 1) := by decide +kernel
set_option maxRecDepth 100000 in
theorem d_Pars_init_38 : decode prog_8_method_1_code 38 = .ok (.aload_n 0, 1) := by decide +kernel
set_option maxRecDepth 100000 in
theorem d_Pars_init_39 : decode prog_8_method_1_code 39 = .ok (.getfield 21, 3) := by decide +kernel
set_option maxRecDepth 100000 in
theorem w_372 : (Cond.fieldLink "StowTongue$Parser" 28 "StowTongue$Parser" "draft" "LStowTongue$Draft;" : Cond) ∈ am_tbl := am_w 372 (by decide +kernel) (by decide +kernel)
set_option maxRecDepth 100000 in
theorem f_Pars_28 : am_F "StowTongue$Parser" 28 5 3 := ⟨_, rfl, cl_5, by decide, Or.inl w_372⟩
set_option maxRecDepth 100000 in
theorem d_Pars_init_42 : decode prog_8_method_1_code 42 = .ok (.putfield 28, 3) := by decide +kernel
set_option maxRecDepth 100000 in
theorem d_Pars_init_45 : decode prog_8_method_1_code 45 = .ok (.aload_n 0, 1) := by decide +kernel
set_option maxRecDepth 100000 in
theorem d_Pars_init_46 : decode prog_8_method_1_code 46 = .ok (.new 31, 3) := by decide +kernel
set_option maxRecDepth 100000 in
theorem w_318 : (Cond.classLink "StowTongue$Parser" 31 "java/util/ArrayList" : Cond) ∈ am_tbl := am_w 318 (by decide +kernel) (by decide +kernel)
set_option maxRecDepth 100000 in
theorem w_319 : (Cond.instantiable "java/util/ArrayList" 3 : Cond) ∈ am_tbl := am_w 319 (by decide +kernel) (by decide +kernel)
set_option maxRecDepth 100000 in
theorem w_155 : (Cond.initialized "java/util/ArrayList" : Cond) ∈ am_tbl := am_w 155 (by decide +kernel) (by decide +kernel)
set_option maxRecDepth 100000 in
theorem n_Pars_31 : am_N "StowTongue$Parser" 31 3 3 [.null, .int 0, .int 0] := ⟨_, rfl, cl_3, rfl, by decide +kernel, w_318, w_319, w_155⟩
set_option maxRecDepth 100000 in
theorem d_Pars_init_49 : decode prog_8_method_1_code 49 = .ok (.dup, 1) := by decide +kernel
set_option maxRecDepth 100000 in
theorem d_Pars_init_50 : decode prog_8_method_1_code 50 = .ok (.invokespecial 33, 3) := by decide +kernel
set_option maxRecDepth 100000 in
theorem w_320 : (Cond.methodLink "StowTongue$Parser" 33 ⟨"java/util/ArrayList", "<init>", "()V"⟩ : Cond) ∈ am_tbl := am_w 320 (by decide +kernel) (by decide +kernel)
set_option maxRecDepth 100000 in
theorem w_322 : (Cond.code ⟨"java/util/ArrayList", "<init>", "()V"⟩ prog_28_method_2_code 1 none : Cond) ∈ am_tbl := am_w 322 rfl rfl
set_option maxRecDepth 100000 in
theorem l_Pars_33 : am_L "StowTongue$Parser" 33 0 m_AL_init := ⟨Or.inl w_320, w_155, w_322, ⟨by decide, by decide⟩, by decide +kernel, by decide⟩
set_option maxRecDepth 100000 in
theorem w_321 : (Cond.instanceMethod ⟨"java/util/ArrayList", "<init>", "()V"⟩ : Cond) ∈ am_tbl := am_w 321 (by decide +kernel) (by decide +kernel)
set_option maxRecDepth 100000 in
theorem w_373 : (Cond.fieldLink "StowTongue$Parser" 34 "StowTongue$Parser" "told" "Ljava/util/ArrayList;" : Cond) ∈ am_tbl := am_w 373 (by decide +kernel) (by decide +kernel)
set_option maxRecDepth 100000 in
theorem f_Pars_34 : am_F "StowTongue$Parser" 34 5 4 := ⟨_, rfl, cl_5, by decide, Or.inl w_373⟩
set_option maxRecDepth 100000 in
theorem d_Pars_init_53 : decode prog_8_method_1_code 53 = .ok (.putfield 34, 3) := by decide +kernel
set_option maxRecDepth 100000 in
theorem d_Pars_init_56 : decode prog_8_method_1_code 56 = .ok (.aload_n 0, 1) := by decide +kernel
set_option maxRecDepth 100000 in
theorem d_Pars_init_57 : decode prog_8_method_1_code 57 = .ok (.new 38, 3) := by decide +kernel
set_option maxRecDepth 100000 in
theorem w_344 : (Cond.classLink "StowTongue$Parser" 38 "StowTongue$Unit" : Cond) ∈ am_tbl := am_w 344 (by decide +kernel) (by decide +kernel)
set_option maxRecDepth 100000 in
theorem w_345 : (Cond.instantiable "StowTongue$Unit" 6 : Cond) ∈ am_tbl := am_w 345 (by decide +kernel) (by decide +kernel)
set_option maxRecDepth 100000 in
theorem w_156 : (Cond.initialized "StowTongue$Unit" : Cond) ∈ am_tbl := am_w 156 (by decide +kernel) (by decide +kernel)
set_option maxRecDepth 100000 in
theorem n_Pars_38 : am_N "StowTongue$Parser" 38 4 6 [.long 0, .int 0, .int 0, .int 0, .null, .null] := ⟨_, rfl, cl_4, rfl, by decide +kernel, w_344, w_345, w_156⟩
set_option maxRecDepth 100000 in
theorem d_Pars_init_60 : decode prog_8_method_1_code 60 = .ok (.dup, 1) := by decide +kernel
set_option maxRecDepth 100000 in
theorem d_Pars_init_61 : decode prog_8_method_1_code 61 = .ok (.lconst 0, 1) := by decide +kernel
set_option maxRecDepth 100000 in
theorem d_Pars_init_62 : decode prog_8_method_1_code 62 = .ok (.iconst 0, 1) := by decide +kernel
set_option maxRecDepth 100000 in
theorem d_Pars_init_63 : decode prog_8_method_1_code 63 = .ok (.iconst 0, 1) := by decide +kernel
set_option maxRecDepth 100000 in
theorem d_Pars_init_64 : decode prog_8_method_1_code 64 = .ok (.iconst 0, 1) := by decide +kernel
set_option maxRecDepth 100000 in
theorem d_Pars_init_65 : decode prog_8_method_1_code 65 = .ok (.iconst 0, 1) := by decide +kernel
set_option maxRecDepth 100000 in
theorem d_Pars_init_66 : decode prog_8_method_1_code 66 = .ok (.newarray .int, 2) := by decide +kernel
set_option maxRecDepth 100000 in
theorem d_Pars_init_68 : decode prog_8_method_1_code 68 = .ok (.iconst 0, 1) := by decide +kernel
set_option maxRecDepth 100000 in
theorem d_Pars_init_69 : decode prog_8_method_1_code 69 = .ok (.newarray .long, 2) := by decide +kernel
set_option maxRecDepth 100000 in
theorem d_Pars_init_71 : decode prog_8_method_1_code 71 = .ok (.invokespecial 40, 3) := by decide +kernel
set_option maxRecDepth 100000 in
theorem w_346 : (Cond.methodLink "StowTongue$Parser" 40 ⟨"StowTongue$Unit", "<init>", "(JIII[I[J)V"⟩ : Cond) ∈ am_tbl := am_w 346 (by decide +kernel) (by decide +kernel)
set_option maxRecDepth 100000 in
theorem w_348 : (Cond.code ⟨"StowTongue$Unit", "<init>", "(JIII[I[J)V"⟩ prog_11_method_1_code 8 none : Cond) ∈ am_tbl := am_w 348 rfl rfl
set_option maxRecDepth 100000 in
theorem l_Pars_40 : am_L "StowTongue$Parser" 40 6 m_Unit_init := ⟨Or.inl w_346, w_156, w_348, ⟨by decide, by decide⟩, by decide +kernel, by decide⟩
set_option maxRecDepth 100000 in
theorem w_347 : (Cond.instanceMethod ⟨"StowTongue$Unit", "<init>", "(JIII[I[J)V"⟩ : Cond) ∈ am_tbl := am_w 347 (by decide +kernel) (by decide +kernel)
set_option maxRecDepth 100000 in
theorem w_374 : (Cond.fieldLink "StowTongue$Parser" 43 "StowTongue$Parser" "program" "LStowTongue$Unit;" : Cond) ∈ am_tbl := am_w 374 (by decide +kernel) (by decide +kernel)
set_option maxRecDepth 100000 in
theorem f_Pars_43 : am_F "StowTongue$Parser" 43 5 5 := ⟨_, rfl, cl_5, by decide, Or.inl w_374⟩
set_option maxRecDepth 100000 in
theorem d_Pars_init_74 : decode prog_8_method_1_code 74 = .ok (.putfield 43, 3) := by decide +kernel
set_option maxRecDepth 100000 in
theorem d_Pars_init_77 : decode prog_8_method_1_code 77 = .ok (.return_, 1) := by decide +kernel
set_option maxRecDepth 100000 in
abbrev m_Stow_init : am_M := (⟨"StowTongue", "<init>", "()V"⟩, prog_1_method_1_code, 1, none)
set_option maxRecDepth 100000 in
theorem d_Stow_init_0 : decode prog_1_method_1_code 0 = .ok (.aload_n 0, 1) := by decide +kernel
set_option maxRecDepth 100000 in
theorem d_Stow_init_1 : decode prog_1_method_1_code 1 = .ok (.invokespecial 1, 3) := by decide +kernel
set_option maxRecDepth 100000 in
theorem w_176 : (Cond.methodLink "StowTongue" 1 ⟨"java/lang/Object", "<init>", "()V"⟩ : Cond) ∈ am_tbl := am_w 176 (by decide +kernel) (by decide +kernel)
set_option maxRecDepth 100000 in
theorem d_Stow_init_4 : decode prog_1_method_1_code 4 = .ok (.aload_n 0, 1) := by decide +kernel
set_option maxRecDepth 100000 in
theorem d_Stow_init_5 : decode prog_1_method_1_code 5 = .ok (.sipush 1500, 3) := by decide +kernel
set_option maxRecDepth 100000 in
theorem d_Stow_init_8 : decode prog_1_method_1_code 8 = .ok (.newarray .byte, 2) := by decide +kernel
set_option maxRecDepth 100000 in
theorem cl_9 : am_Cl ("StowTongue", TC9, 10) := ⟨am_in_r [505, 507, 509, 511, 513, 515, 517, 519, 521, 523] (by decide +kernel) (by decide +kernel), by decide +kernel, by decide +kernel⟩
set_option maxRecDepth 100000 in
theorem w_495 : (Cond.fieldLink "StowTongue" 9 "StowTongue" "tape" "[B" : Cond) ∈ am_tbl := am_w 495 (by decide +kernel) (by decide +kernel)
set_option maxRecDepth 100000 in
theorem f_Stow_9 : am_F "StowTongue" 9 9 0 := ⟨_, rfl, cl_9, by decide, Or.inl w_495⟩
set_option maxRecDepth 100000 in
theorem d_Stow_init_10 : decode prog_1_method_1_code 10 = .ok (.putfield 9, 3) := by decide +kernel
set_option maxRecDepth 100000 in
theorem d_Stow_init_13 : decode prog_1_method_1_code 13 = .ok (.aload_n 0, 1) := by decide +kernel
set_option maxRecDepth 100000 in
theorem d_Stow_init_14 : decode prog_1_method_1_code 14 = .ok (.new 13, 3) := by decide +kernel
set_option maxRecDepth 100000 in
theorem w_179 : (Cond.classLink "StowTongue" 13 "StowTongue$Out" : Cond) ∈ am_tbl := am_w 179 (by decide +kernel) (by decide +kernel)
set_option maxRecDepth 100000 in
theorem w_180 : (Cond.instantiable "StowTongue$Out" 3 : Cond) ∈ am_tbl := am_w 180 (by decide +kernel) (by decide +kernel)
set_option maxRecDepth 100000 in
theorem w_144 : (Cond.initialized "StowTongue$Out" : Cond) ∈ am_tbl := am_w 144 (by decide +kernel) (by decide +kernel)
set_option maxRecDepth 100000 in
theorem n_Stow_13 : am_N "StowTongue" 13 0 3 [.null, .int 0, .int 0] := ⟨_, rfl, cl_0, rfl, by decide +kernel, w_179, w_180, w_144⟩
set_option maxRecDepth 100000 in
theorem d_Stow_init_17 : decode prog_1_method_1_code 17 = .ok (.dup, 1) := by decide +kernel
set_option maxRecDepth 100000 in
theorem d_Stow_init_18 : decode prog_1_method_1_code 18 = .ok (.invokespecial 15, 3) := by decide +kernel
set_option maxRecDepth 100000 in
theorem w_183 : (Cond.code ⟨"StowTongue$Out", "<init>", "()V"⟩ prog_7_method_1_code 1 none : Cond) ∈ am_tbl := am_w 183 rfl rfl
set_option maxRecDepth 100000 in
theorem l_Stow_15 : am_L "StowTongue" 15 0 m_Out_init := ⟨Or.inr ⟨"StowTongue", List.mem_of_getElem? (i := 181) (by decide +kernel)⟩, w_144, w_183, ⟨by decide, by decide⟩, by decide +kernel, by decide⟩
set_option maxRecDepth 100000 in
theorem w_182 : (Cond.instanceMethod ⟨"StowTongue$Out", "<init>", "()V"⟩ : Cond) ∈ am_tbl := am_w 182 (by decide +kernel) (by decide +kernel)
set_option maxRecDepth 100000 in
theorem w_497 : (Cond.fieldLink "StowTongue" 16 "StowTongue" "out" "LStowTongue$Out;" : Cond) ∈ am_tbl := am_w 497 (by decide +kernel) (by decide +kernel)
set_option maxRecDepth 100000 in
theorem f_Stow_16 : am_F "StowTongue" 16 9 2 := ⟨_, rfl, cl_9, by decide, Or.inl w_497⟩
set_option maxRecDepth 100000 in
theorem d_Stow_init_21 : decode prog_1_method_1_code 21 = .ok (.putfield 16, 3) := by decide +kernel
set_option maxRecDepth 100000 in
theorem d_Stow_init_24 : decode prog_1_method_1_code 24 = .ok (.aload_n 0, 1) := by decide +kernel
set_option maxRecDepth 100000 in
theorem d_Stow_init_25 : decode prog_1_method_1_code 25 = .ok (.new 20, 3) := by decide +kernel
set_option maxRecDepth 100000 in
theorem w_196 : (Cond.classLink "StowTongue" 20 "StowTongue$Parser" : Cond) ∈ am_tbl := am_w 196 (by decide +kernel) (by decide +kernel)
set_option maxRecDepth 100000 in
theorem w_197 : (Cond.instantiable "StowTongue$Parser" 8 : Cond) ∈ am_tbl := am_w 197 (by decide +kernel) (by decide +kernel)
set_option maxRecDepth 100000 in
theorem w_145 : (Cond.initialized "StowTongue$Parser" : Cond) ∈ am_tbl := am_w 145 (by decide +kernel) (by decide +kernel)
set_option maxRecDepth 100000 in
theorem n_Stow_20 : am_N "StowTongue" 20 5 8 [.null, .null, .null, .null, .null, .null, .int 0, .int 0] := ⟨_, rfl, cl_5, rfl, by decide +kernel, w_196, w_197, w_145⟩
set_option maxRecDepth 100000 in
theorem d_Stow_init_28 : decode prog_1_method_1_code 28 = .ok (.dup, 1) := by decide +kernel
set_option maxRecDepth 100000 in
theorem d_Stow_init_29 : decode prog_1_method_1_code 29 = .ok (.invokespecial 22, 3) := by decide +kernel
set_option maxRecDepth 100000 in
theorem w_200 : (Cond.code ⟨"StowTongue$Parser", "<init>", "()V"⟩ prog_8_method_1_code 1 none : Cond) ∈ am_tbl := am_w 200 rfl rfl
set_option maxRecDepth 100000 in
theorem l_Stow_22 : am_L "StowTongue" 22 0 m_Pars_init := ⟨Or.inr ⟨"StowTongue", List.mem_of_getElem? (i := 198) (by decide +kernel)⟩, w_145, w_200, ⟨by decide, by decide⟩, by decide +kernel, by decide⟩
set_option maxRecDepth 100000 in
theorem w_199 : (Cond.instanceMethod ⟨"StowTongue$Parser", "<init>", "()V"⟩ : Cond) ∈ am_tbl := am_w 199 (by decide +kernel) (by decide +kernel)
set_option maxRecDepth 100000 in
theorem w_498 : (Cond.fieldLink "StowTongue" 23 "StowTongue" "parser" "LStowTongue$Parser;" : Cond) ∈ am_tbl := am_w 498 (by decide +kernel) (by decide +kernel)
set_option maxRecDepth 100000 in
theorem f_Stow_23 : am_F "StowTongue" 23 9 3 := ⟨_, rfl, cl_9, by decide, Or.inl w_498⟩
set_option maxRecDepth 100000 in
theorem d_Stow_init_32 : decode prog_1_method_1_code 32 = .ok (.putfield 23, 3) := by decide +kernel
set_option maxRecDepth 100000 in
theorem d_Stow_init_35 : decode prog_1_method_1_code 35 = .ok (.aload_n 0, 1) := by decide +kernel
set_option maxRecDepth 100000 in
theorem d_Stow_init_36 : decode prog_1_method_1_code 36 = .ok (.new 27, 3) := by decide +kernel
set_option maxRecDepth 100000 in
theorem w_394 : (Cond.classLink "StowTongue" 27 "StowTongue$Machine" : Cond) ∈ am_tbl := am_w 394 (by decide +kernel) (by decide +kernel)
set_option maxRecDepth 100000 in
theorem w_395 : (Cond.instantiable "StowTongue$Machine" 18 : Cond) ∈ am_tbl := am_w 395 (by decide +kernel) (by decide +kernel)
set_option maxRecDepth 100000 in
theorem w_157 : (Cond.initialized "StowTongue$Machine" : Cond) ∈ am_tbl := am_w 157 (by decide +kernel) (by decide +kernel)
set_option maxRecDepth 100000 in
theorem n_Stow_27 : am_N "StowTongue" 27 6 18 [.null, .null, .int 0, .int 0, .null, .int 0, .null, .null, .null, .int 0, .null, .null, .int 0, .int 0, .int 0, .int 0, .long 0, .long 0] := ⟨_, rfl, cl_6, rfl, by decide +kernel, w_394, w_395, w_157⟩
set_option maxRecDepth 100000 in
theorem d_Stow_init_39 : decode prog_1_method_1_code 39 = .ok (.dup, 1) := by decide +kernel
set_option maxRecDepth 100000 in
theorem d_Stow_init_40 : decode prog_1_method_1_code 40 = .ok (.invokespecial 29, 3) := by decide +kernel
set_option maxRecDepth 100000 in
theorem w_398 : (Cond.code ⟨"StowTongue$Machine", "<init>", "()V"⟩ prog_6_method_1_code 1 none : Cond) ∈ am_tbl := am_w 398 rfl rfl
set_option maxRecDepth 100000 in
theorem l_Stow_29 : am_L "StowTongue" 29 0 m_Mach_init := ⟨Or.inr ⟨"StowTongue", List.mem_of_getElem? (i := 396) (by decide +kernel)⟩, w_157, w_398, ⟨by decide, by decide⟩, by decide +kernel, by decide⟩
set_option maxRecDepth 100000 in
theorem w_397 : (Cond.instanceMethod ⟨"StowTongue$Machine", "<init>", "()V"⟩ : Cond) ∈ am_tbl := am_w 397 (by decide +kernel) (by decide +kernel)
set_option maxRecDepth 100000 in
theorem w_499 : (Cond.fieldLink "StowTongue" 30 "StowTongue" "machine" "LStowTongue$Machine;" : Cond) ∈ am_tbl := am_w 499 (by decide +kernel) (by decide +kernel)
set_option maxRecDepth 100000 in
theorem f_Stow_30 : am_F "StowTongue" 30 9 4 := ⟨_, rfl, cl_9, by decide, Or.inl w_499⟩
set_option maxRecDepth 100000 in
theorem d_Stow_init_43 : decode prog_1_method_1_code 43 = .ok (.putfield 30, 3) := by decide +kernel
set_option maxRecDepth 100000 in
theorem d_Stow_init_46 : decode prog_1_method_1_code 46 = .ok (.aload_n 0, 1) := by decide +kernel
set_option maxRecDepth 100000 in
theorem d_Stow_init_47 : decode prog_1_method_1_code 47 = .ok (.new 34, 3) := by decide +kernel
set_option maxRecDepth 100000 in
theorem w_457 : (Cond.classLink "StowTongue" 34 "StowTongue$Log" : Cond) ∈ am_tbl := am_w 457 (by decide +kernel) (by decide +kernel)
set_option maxRecDepth 100000 in
theorem w_458 : (Cond.instantiable "StowTongue$Log" 4 : Cond) ∈ am_tbl := am_w 458 (by decide +kernel) (by decide +kernel)
set_option maxRecDepth 100000 in
theorem w_158 : (Cond.initialized "StowTongue$Log" : Cond) ∈ am_tbl := am_w 158 (by decide +kernel) (by decide +kernel)
set_option maxRecDepth 100000 in
theorem n_Stow_34 : am_N "StowTongue" 34 7 4 [.null, .null, .int 0, .int 0] := ⟨_, rfl, cl_7, rfl, by decide +kernel, w_457, w_458, w_158⟩
set_option maxRecDepth 100000 in
theorem d_Stow_init_50 : decode prog_1_method_1_code 50 = .ok (.dup, 1) := by decide +kernel
set_option maxRecDepth 100000 in
theorem d_Stow_init_51 : decode prog_1_method_1_code 51 = .ok (.invokespecial 36, 3) := by decide +kernel
set_option maxRecDepth 100000 in
theorem w_461 : (Cond.code ⟨"StowTongue$Log", "<init>", "()V"⟩ prog_5_method_1_code 1 none : Cond) ∈ am_tbl := am_w 461 rfl rfl
set_option maxRecDepth 100000 in
theorem l_Stow_36 : am_L "StowTongue" 36 0 m_Log_init := ⟨Or.inr ⟨"StowTongue", List.mem_of_getElem? (i := 459) (by decide +kernel)⟩, w_158, w_461, ⟨by decide, by decide⟩, by decide +kernel, by decide⟩
set_option maxRecDepth 100000 in
theorem w_460 : (Cond.instanceMethod ⟨"StowTongue$Log", "<init>", "()V"⟩ : Cond) ∈ am_tbl := am_w 460 (by decide +kernel) (by decide +kernel)
set_option maxRecDepth 100000 in
theorem w_500 : (Cond.fieldLink "StowTongue" 37 "StowTongue" "log" "LStowTongue$Log;" : Cond) ∈ am_tbl := am_w 500 (by decide +kernel) (by decide +kernel)
set_option maxRecDepth 100000 in
theorem f_Stow_37 : am_F "StowTongue" 37 9 5 := ⟨_, rfl, cl_9, by decide, Or.inl w_500⟩
set_option maxRecDepth 100000 in
theorem d_Stow_init_54 : decode prog_1_method_1_code 54 = .ok (.putfield 37, 3) := by decide +kernel
set_option maxRecDepth 100000 in
theorem d_Stow_init_57 : decode prog_1_method_1_code 57 = .ok (.aload_n 0, 1) := by decide +kernel
set_option maxRecDepth 100000 in
theorem d_Stow_init_58 : decode prog_1_method_1_code 58 = .ok (.new 41, 3) := by decide +kernel
set_option maxRecDepth 100000 in
theorem w_478 : (Cond.classLink "StowTongue" 41 "StowTongue$Sweeper" : Cond) ∈ am_tbl := am_w 478 (by decide +kernel) (by decide +kernel)
set_option maxRecDepth 100000 in
theorem w_479 : (Cond.instantiable "StowTongue$Sweeper" 3 : Cond) ∈ am_tbl := am_w 479 (by decide +kernel) (by decide +kernel)
set_option maxRecDepth 100000 in
theorem w_159 : (Cond.initialized "StowTongue$Sweeper" : Cond) ∈ am_tbl := am_w 159 (by decide +kernel) (by decide +kernel)
set_option maxRecDepth 100000 in
theorem n_Stow_41 : am_N "StowTongue" 41 8 3 [.null, .null, .int 0] := ⟨_, rfl, cl_8, rfl, by decide +kernel, w_478, w_479, w_159⟩
set_option maxRecDepth 100000 in
theorem d_Stow_init_61 : decode prog_1_method_1_code 61 = .ok (.dup, 1) := by decide +kernel
set_option maxRecDepth 100000 in
theorem d_Stow_init_62 : decode prog_1_method_1_code 62 = .ok (.invokespecial 43, 3) := by decide +kernel
set_option maxRecDepth 100000 in
theorem w_482 : (Cond.code ⟨"StowTongue$Sweeper", "<init>", "()V"⟩ prog_10_method_1_code 1 none : Cond) ∈ am_tbl := am_w 482 rfl rfl
set_option maxRecDepth 100000 in
theorem l_Stow_43 : am_L "StowTongue" 43 0 m_Sweep_init := ⟨Or.inr ⟨"StowTongue", List.mem_of_getElem? (i := 480) (by decide +kernel)⟩, w_159, w_482, ⟨by decide, by decide⟩, by decide +kernel, by decide⟩
set_option maxRecDepth 100000 in
theorem w_481 : (Cond.instanceMethod ⟨"StowTongue$Sweeper", "<init>", "()V"⟩ : Cond) ∈ am_tbl := am_w 481 (by decide +kernel) (by decide +kernel)
set_option maxRecDepth 100000 in
theorem w_501 : (Cond.fieldLink "StowTongue" 44 "StowTongue" "sweeper" "LStowTongue$Sweeper;" : Cond) ∈ am_tbl := am_w 501 (by decide +kernel) (by decide +kernel)
set_option maxRecDepth 100000 in
theorem f_Stow_44 : am_F "StowTongue" 44 9 6 := ⟨_, rfl, cl_9, by decide, Or.inl w_501⟩
set_option maxRecDepth 100000 in
theorem d_Stow_init_65 : decode prog_1_method_1_code 65 = .ok (.putfield 44, 3) := by decide +kernel
set_option maxRecDepth 100000 in
theorem d_Stow_init_68 : decode prog_1_method_1_code 68 = .ok (.return_, 1) := by decide +kernel
