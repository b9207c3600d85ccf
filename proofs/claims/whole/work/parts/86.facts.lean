abbrev m_Lexer_skipBlanks : am_M := (⟨"StowTongue$Lexer", "skipBlanks", "()V"⟩, prog_4_method_16_code, 2, none)
theorem w_263 : (Cond.fieldLink "StowTongue$Lexer" 46 "StowTongue$Lexer" "next" "I" : Cond) ∈ am_tbl := am_w 263 (by decide +kernel) (by decide +kernel)
theorem f_Lexer_46 : am_F "StowTongue$Lexer" 46 1 3 := ⟨_, rfl, cl_1, by decide, Or.inl w_263⟩
theorem w_561 : (Cond.methodLink "StowTongue$Lexer" 61 ⟨"StowTongue$Lexer", "byteAt", "(I)I"⟩ : Cond) ∈ am_tbl := am_w 561 (by decide +kernel) (by decide +kernel)
set_option maxRecDepth 100000 in
theorem w_564 : (Cond.code ⟨"StowTongue$Lexer", "byteAt", "(I)I"⟩ prog_4_method_15_code 2 (some FieldType.int) : Cond) ∈ am_tbl := am_w 564 rfl rfl
theorem l_Lexer_61 : am_L "StowTongue$Lexer" 61 1 m_Lexer_byteAt := ⟨Or.inl w_561, w_146, w_564, ⟨by decide, by decide⟩, by decide +kernel, by decide⟩
theorem d_Lexer_skipBlanks_0 : decode prog_4_method_16_code 0 = .ok (.aload_n 0, 1) := by decide +kernel
theorem d_Lexer_skipBlanks_1 : decode prog_4_method_16_code 1 = .ok (.getfield 46, 3) := by decide +kernel
theorem d_Lexer_skipBlanks_4 : decode prog_4_method_16_code 4 = .ok (.aload_n 0, 1) := by decide +kernel
theorem d_Lexer_skipBlanks_5 : decode prog_4_method_16_code 5 = .ok (.getfield 43, 3) := by decide +kernel
theorem d_Lexer_skipBlanks_33 : decode prog_4_method_16_code 33 = .ok (.aload_n 0, 1) := by decide +kernel
theorem d_Lexer_skipBlanks_34 : decode prog_4_method_16_code 34 = .ok (.dup, 1) := by decide +kernel
theorem d_Lexer_skipBlanks_35 : decode prog_4_method_16_code 35 = .ok (.getfield 46, 3) := by decide +kernel
theorem d_Lexer_skipBlanks_38 : decode prog_4_method_16_code 38 = .ok (.iconst 1, 1) := by decide +kernel
theorem d_Lexer_skipBlanks_39 : decode prog_4_method_16_code 39 = .ok (.iadd, 1) := by decide +kernel
theorem d_Lexer_skipBlanks_40 : decode prog_4_method_16_code 40 = .ok (.putfield 46, 3) := by decide +kernel
theorem d_Lexer_skipBlanks_43 : decode prog_4_method_16_code 43 = .ok (.goto (-43), 3) := by decide +kernel
theorem d_Lexer_skipBlanks_8 : decode prog_4_method_16_code 8 = .ok (.if_icmp .ge 38, 3) := by decide +kernel
theorem d_Lexer_skipBlanks_46 : decode prog_4_method_16_code 46 = .ok (.return_, 1) := by decide +kernel
theorem d_Lexer_skipBlanks_11 : decode prog_4_method_16_code 11 = .ok (.aload_n 0, 1) := by decide +kernel
theorem d_Lexer_skipBlanks_12 : decode prog_4_method_16_code 12 = .ok (.aload_n 0, 1) := by decide +kernel
theorem d_Lexer_skipBlanks_13 : decode prog_4_method_16_code 13 = .ok (.getfield 46, 3) := by decide +kernel
theorem w_563 : (Cond.instanceMethod ⟨"StowTongue$Lexer", "byteAt", "(I)I"⟩ : Cond) ∈ am_tbl := am_w 563 (by decide +kernel) (by decide +kernel)
theorem w_2 : (Cond.selects "StowTongue$Lexer" ⟨"StowTongue$Lexer", "byteAt", "(I)I"⟩ ⟨"StowTongue$Lexer", "byteAt", "(I)I"⟩ : Cond) ∈ am_tbl := am_w 2 (by decide +kernel) (by decide +kernel)
theorem d_Lexer_skipBlanks_16 : decode prog_4_method_16_code 16 = .ok (.invokevirtual 61, 3) := by decide +kernel
theorem d_Lexer_skipBlanks_19 : decode prog_4_method_16_code 19 = .ok (.istore_n 1, 1) := by decide +kernel
theorem d_Lexer_skipBlanks_20 : decode prog_4_method_16_code 20 = .ok (.iload_n 1, 1) := by decide +kernel
theorem d_Lexer_skipBlanks_21 : decode prog_4_method_16_code 21 = .ok (.bipush 32, 2) := by decide +kernel
theorem d_Lexer_skipBlanks_23 : decode prog_4_method_16_code 23 = .ok (.if_icmp .eq 10, 3) := by decide +kernel
theorem d_Lexer_skipBlanks_26 : decode prog_4_method_16_code 26 = .ok (.iload_n 1, 1) := by decide +kernel
theorem d_Lexer_skipBlanks_27 : decode prog_4_method_16_code 27 = .ok (.bipush 10, 2) := by decide +kernel
theorem d_Lexer_skipBlanks_29 : decode prog_4_method_16_code 29 = .ok (.if_icmp .eq 4, 3) := by decide +kernel
theorem d_Lexer_skipBlanks_32 : decode prog_4_method_16_code 32 = .ok (.return_, 1) := by decide +kernel
