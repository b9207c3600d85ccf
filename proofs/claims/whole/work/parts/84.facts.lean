abbrev m_Lexer_byteAt : am_M := (⟨"StowTongue$Lexer", "byteAt", "(I)I"⟩, prog_4_method_15_code, 2, (some FieldType.int))
theorem d_Lexer_byteAt_0 : decode prog_4_method_15_code 0 = .ok (.iload_n 1, 1) := by decide +kernel
theorem d_Lexer_byteAt_1 : decode prog_4_method_15_code 1 = .ok (.ifCond .lt 24, 3) := by decide +kernel
theorem d_Lexer_byteAt_25 : decode prog_4_method_15_code 25 = .ok (.iconst (-1), 1) := by decide +kernel
theorem d_Lexer_byteAt_26 : decode prog_4_method_15_code 26 = .ok (.ireturn, 1) := by decide +kernel
theorem d_Lexer_byteAt_4 : decode prog_4_method_15_code 4 = .ok (.iload_n 1, 1) := by decide +kernel
theorem d_Lexer_byteAt_5 : decode prog_4_method_15_code 5 = .ok (.aload_n 0, 1) := by decide +kernel
theorem w_262 : (Cond.fieldLink "StowTongue$Lexer" 43 "StowTongue$Lexer" "length" "I" : Cond) ∈ am_tbl := am_w 262 (by decide +kernel) (by decide +kernel)
theorem f_Lexer_43 : am_F "StowTongue$Lexer" 43 1 2 := ⟨_, rfl, cl_1, by decide, Or.inl w_262⟩
theorem d_Lexer_byteAt_6 : decode prog_4_method_15_code 6 = .ok (.getfield 43, 3) := by decide +kernel
theorem d_Lexer_byteAt_9 : decode prog_4_method_15_code 9 = .ok (.if_icmp .ge 16, 3) := by decide +kernel
theorem d_Lexer_byteAt_12 : decode prog_4_method_15_code 12 = .ok (.aload_n 0, 1) := by decide +kernel
theorem d_Lexer_byteAt_13 : decode prog_4_method_15_code 13 = .ok (.getfield 15, 3) := by decide +kernel
theorem d_Lexer_byteAt_16 : decode prog_4_method_15_code 16 = .ok (.iload_n 1, 1) := by decide +kernel
theorem d_Lexer_byteAt_17 : decode prog_4_method_15_code 17 = .ok (.baload, 1) := by decide +kernel
theorem d_Lexer_byteAt_18 : decode prog_4_method_15_code 18 = .ok (.sipush 255, 3) := by decide +kernel
theorem d_Lexer_byteAt_21 : decode prog_4_method_15_code 21 = .ok (.iand, 1) := by decide +kernel
theorem d_Lexer_byteAt_22 : decode prog_4_method_15_code 22 = .ok (.goto 4, 3) := by decide +kernel
abbrev m_Unit_op : am_M := (⟨"StowTongue$Unit", "op", "(I)I"⟩, prog_11_method_6_code, 3, (some FieldType.int))
theorem d_Unit_op_0 : decode prog_11_method_6_code 0 = .ok (.iconst 2, 1) := by decide +kernel
theorem d_Unit_op_1 : decode prog_11_method_6_code 1 = .ok (.iload_n 1, 1) := by decide +kernel
theorem d_Unit_op_2 : decode prog_11_method_6_code 2 = .ok (.imul, 1) := by decide +kernel
theorem d_Unit_op_3 : decode prog_11_method_6_code 3 = .ok (.istore_n 2, 1) := by decide +kernel
theorem d_Unit_op_4 : decode prog_11_method_6_code 4 = .ok (.iload_n 2, 1) := by decide +kernel
theorem d_Unit_op_5 : decode prog_11_method_6_code 5 = .ok (.ifCond .lt 21, 3) := by decide +kernel
theorem d_Unit_op_26 : decode prog_11_method_6_code 26 = .ok (.bipush 6, 2) := by decide +kernel
theorem d_Unit_op_28 : decode prog_11_method_6_code 28 = .ok (.ireturn, 1) := by decide +kernel
theorem d_Unit_op_8 : decode prog_11_method_6_code 8 = .ok (.iload_n 2, 1) := by decide +kernel
theorem d_Unit_op_9 : decode prog_11_method_6_code 9 = .ok (.aload_n 0, 1) := by decide +kernel
theorem d_Unit_op_10 : decode prog_11_method_6_code 10 = .ok (.getfield 23, 3) := by decide +kernel
theorem d_Unit_op_13 : decode prog_11_method_6_code 13 = .ok (.arraylength, 1) := by decide +kernel
theorem d_Unit_op_14 : decode prog_11_method_6_code 14 = .ok (.if_icmp .ge 12, 3) := by decide +kernel
theorem d_Unit_op_17 : decode prog_11_method_6_code 17 = .ok (.aload_n 0, 1) := by decide +kernel
theorem d_Unit_op_18 : decode prog_11_method_6_code 18 = .ok (.getfield 23, 3) := by decide +kernel
theorem d_Unit_op_21 : decode prog_11_method_6_code 21 = .ok (.iload_n 2, 1) := by decide +kernel
theorem d_Unit_op_22 : decode prog_11_method_6_code 22 = .ok (.iaload, 1) := by decide +kernel
theorem d_Unit_op_23 : decode prog_11_method_6_code 23 = .ok (.goto 5, 3) := by decide +kernel
abbrev m_Unit_constant : am_M := (⟨"StowTongue$Unit", "constant", "(I)J"⟩, prog_11_method_8_code, 2, (some FieldType.long))
theorem d_Unit_constant_0 : decode prog_11_method_8_code 0 = .ok (.iload_n 1, 1) := by decide +kernel
theorem d_Unit_constant_1 : decode prog_11_method_8_code 1 = .ok (.ifCond .lt 21, 3) := by decide +kernel
theorem d_Unit_constant_22 : decode prog_11_method_8_code 22 = .ok (.lconst 0, 1) := by decide +kernel
theorem d_Unit_constant_23 : decode prog_11_method_8_code 23 = .ok (.lreturn, 1) := by decide +kernel
theorem d_Unit_constant_4 : decode prog_11_method_8_code 4 = .ok (.iload_n 1, 1) := by decide +kernel
theorem d_Unit_constant_5 : decode prog_11_method_8_code 5 = .ok (.aload_n 0, 1) := by decide +kernel
theorem d_Unit_constant_6 : decode prog_11_method_8_code 6 = .ok (.getfield 27, 3) := by decide +kernel
theorem d_Unit_constant_9 : decode prog_11_method_8_code 9 = .ok (.arraylength, 1) := by decide +kernel
theorem d_Unit_constant_10 : decode prog_11_method_8_code 10 = .ok (.if_icmp .ge 12, 3) := by decide +kernel
theorem d_Unit_constant_13 : decode prog_11_method_8_code 13 = .ok (.aload_n 0, 1) := by decide +kernel
theorem d_Unit_constant_14 : decode prog_11_method_8_code 14 = .ok (.getfield 27, 3) := by decide +kernel
theorem d_Unit_constant_17 : decode prog_11_method_8_code 17 = .ok (.iload_n 1, 1) := by decide +kernel
theorem d_Unit_constant_18 : decode prog_11_method_8_code 18 = .ok (.laload, 1) := by decide +kernel
theorem d_Unit_constant_19 : decode prog_11_method_8_code 19 = .ok (.goto 4, 3) := by decide +kernel
abbrev m_Unit_argument : am_M := (⟨"StowTongue$Unit", "argument", "(I)I"⟩, prog_11_method_7_code, 3, (some FieldType.int))
theorem d_Unit_argument_0 : decode prog_11_method_7_code 0 = .ok (.iconst 2, 1) := by decide +kernel
theorem d_Unit_argument_1 : decode prog_11_method_7_code 1 = .ok (.iload_n 1, 1) := by decide +kernel
theorem d_Unit_argument_2 : decode prog_11_method_7_code 2 = .ok (.imul, 1) := by decide +kernel
theorem d_Unit_argument_3 : decode prog_11_method_7_code 3 = .ok (.iconst 1, 1) := by decide +kernel
theorem d_Unit_argument_4 : decode prog_11_method_7_code 4 = .ok (.iadd, 1) := by decide +kernel
theorem d_Unit_argument_5 : decode prog_11_method_7_code 5 = .ok (.istore_n 2, 1) := by decide +kernel
theorem d_Unit_argument_6 : decode prog_11_method_7_code 6 = .ok (.iload_n 2, 1) := by decide +kernel
theorem d_Unit_argument_7 : decode prog_11_method_7_code 7 = .ok (.iconst 1, 1) := by decide +kernel
theorem d_Unit_argument_8 : decode prog_11_method_7_code 8 = .ok (.if_icmp .lt 21, 3) := by decide +kernel
theorem d_Unit_argument_29 : decode prog_11_method_7_code 29 = .ok (.iconst 0, 1) := by decide +kernel
theorem d_Unit_argument_30 : decode prog_11_method_7_code 30 = .ok (.ireturn, 1) := by decide +kernel
theorem d_Unit_argument_11 : decode prog_11_method_7_code 11 = .ok (.iload_n 2, 1) := by decide +kernel
theorem d_Unit_argument_12 : decode prog_11_method_7_code 12 = .ok (.aload_n 0, 1) := by decide +kernel
theorem d_Unit_argument_13 : decode prog_11_method_7_code 13 = .ok (.getfield 23, 3) := by decide +kernel
theorem d_Unit_argument_16 : decode prog_11_method_7_code 16 = .ok (.arraylength, 1) := by decide +kernel
theorem d_Unit_argument_17 : decode prog_11_method_7_code 17 = .ok (.if_icmp .ge 12, 3) := by decide +kernel
theorem d_Unit_argument_20 : decode prog_11_method_7_code 20 = .ok (.aload_n 0, 1) := by decide +kernel
theorem d_Unit_argument_21 : decode prog_11_method_7_code 21 = .ok (.getfield 23, 3) := by decide +kernel
theorem d_Unit_argument_24 : decode prog_11_method_7_code 24 = .ok (.iload_n 2, 1) := by decide +kernel
theorem d_Unit_argument_25 : decode prog_11_method_7_code 25 = .ok (.iaload, 1) := by decide +kernel
theorem d_Unit_argument_26 : decode prog_11_method_7_code 26 = .ok (.goto 4, 3) := by decide +kernel
