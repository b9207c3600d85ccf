abbrev m_Cell_headOf : am_M := (⟨"StowTongue$Cell", "headOf", "(I)J"⟩, prog_2_method_2_code, 1, (some FieldType.long))
theorem d_Cell_headOf_0 : decode prog_2_method_2_code 0 = .ok (.iload_n 0, 1) := by decide +kernel
theorem d_Cell_headOf_1 : decode prog_2_method_2_code 1 = .ok (.i2l, 1) := by decide +kernel
theorem d_Cell_headOf_2 : decode prog_2_method_2_code 2 = .ok (.bipush 56, 2) := by decide +kernel
theorem d_Cell_headOf_4 : decode prog_2_method_2_code 4 = .ok (.lshl, 1) := by decide +kernel
theorem d_Cell_headOf_5 : decode prog_2_method_2_code 5 = .ok (.lreturn, 1) := by decide +kernel
abbrev m_Cell_isObject : am_M := (⟨"StowTongue$Cell", "isObject", "(J)Z"⟩, prog_2_method_4_code, 3, (some FieldType.boolean))
theorem d_Cell_isObject_0 : decode prog_2_method_4_code 0 = .ok (.lload_n 0, 1) := by decide +kernel
theorem d_Cell_isObject_1 : decode prog_2_method_4_code 1 = .ok (.invokestatic 9, 3) := by decide +kernel
theorem w_1103 : (Cond.methodLink "StowTongue$Cell" 9 ⟨"StowTongue$Cell", "sortOf", "(J)I"⟩ : Cond) ∈ am_tbl := am_w 1103 (by decide +kernel) (by decide +kernel)
theorem l_Cell_9 : am_L "StowTongue$Cell" 9 1 m_Cell_sortOf := ⟨Or.inl w_1103, w_151, w_1105, ⟨by decide, by decide⟩, by decide +kernel, by decide⟩
theorem d_Cell_isObject_4 : decode prog_2_method_4_code 4 = .ok (.istore_n 2, 1) := by decide +kernel
theorem d_Cell_isObject_5 : decode prog_2_method_4_code 5 = .ok (.iload_n 2, 1) := by decide +kernel
theorem d_Cell_isObject_6 : decode prog_2_method_4_code 6 = .ok (.iconst 3, 1) := by decide +kernel
theorem d_Cell_isObject_7 : decode prog_2_method_4_code 7 = .ok (.if_icmp .eq 8, 3) := by decide +kernel
theorem d_Cell_isObject_15 : decode prog_2_method_4_code 15 = .ok (.iconst 1, 1) := by decide +kernel
theorem d_Cell_isObject_16 : decode prog_2_method_4_code 16 = .ok (.goto 4, 3) := by decide +kernel
theorem d_Cell_isObject_20 : decode prog_2_method_4_code 20 = .ok (.ireturn, 1) := by decide +kernel
theorem d_Cell_isObject_10 : decode prog_2_method_4_code 10 = .ok (.iload_n 2, 1) := by decide +kernel
theorem d_Cell_isObject_11 : decode prog_2_method_4_code 11 = .ok (.iconst 4, 1) := by decide +kernel
theorem d_Cell_isObject_12 : decode prog_2_method_4_code 12 = .ok (.if_icmp .ne 7, 3) := by decide +kernel
theorem d_Cell_isObject_19 : decode prog_2_method_4_code 19 = .ok (.iconst 0, 1) := by decide +kernel
abbrev m_Cell_isTrue : am_M := (⟨"StowTongue$Cell", "isTrue", "(JJ)Z"⟩, prog_2_method_5_code, 5, (some FieldType.boolean))
theorem d_Cell_isTrue_0 : decode prog_2_method_5_code 0 = .ok (.lload_n 0, 1) := by decide +kernel
theorem d_Cell_isTrue_1 : decode prog_2_method_5_code 1 = .ok (.invokestatic 9, 3) := by decide +kernel
theorem d_Cell_isTrue_4 : decode prog_2_method_5_code 4 = .ok (.istore 4, 2) := by decide +kernel
theorem d_Cell_isTrue_6 : decode prog_2_method_5_code 6 = .ok (.iload 4, 2) := by decide +kernel
theorem d_Cell_isTrue_8 : decode prog_2_method_5_code 8 = .ok (.ifCond .eq 19, 3) := by decide +kernel
theorem d_Cell_isTrue_27 : decode prog_2_method_5_code 27 = .ok (.iconst 0, 1) := by decide +kernel
theorem d_Cell_isTrue_28 : decode prog_2_method_5_code 28 = .ok (.ireturn, 1) := by decide +kernel
theorem d_Cell_isTrue_11 : decode prog_2_method_5_code 11 = .ok (.iload 4, 2) := by decide +kernel
theorem d_Cell_isTrue_13 : decode prog_2_method_5_code 13 = .ok (.iconst 1, 1) := by decide +kernel
theorem d_Cell_isTrue_14 : decode prog_2_method_5_code 14 = .ok (.if_icmp .ne 9, 3) := by decide +kernel
theorem d_Cell_isTrue_23 : decode prog_2_method_5_code 23 = .ok (.iconst 1, 1) := by decide +kernel
theorem d_Cell_isTrue_24 : decode prog_2_method_5_code 24 = .ok (.goto 4, 3) := by decide +kernel
theorem d_Cell_isTrue_17 : decode prog_2_method_5_code 17 = .ok (.lload_n 2, 1) := by decide +kernel
theorem d_Cell_isTrue_18 : decode prog_2_method_5_code 18 = .ok (.lconst 0, 1) := by decide +kernel
theorem d_Cell_isTrue_19 : decode prog_2_method_5_code 19 = .ok (.lcmp, 1) := by decide +kernel
theorem d_Cell_isTrue_20 : decode prog_2_method_5_code 20 = .ok (.ifCond .eq 7, 3) := by decide +kernel
abbrev m_Cell_signAt : am_M := (⟨"StowTongue$Cell", "signAt", "(JJI)I"⟩, prog_2_method_7_code, 7, (some FieldType.int))
theorem d_Cell_signAt_0 : decode prog_2_method_7_code 0 = .ok (.iload 4, 2) := by decide +kernel
theorem d_Cell_signAt_2 : decode prog_2_method_7_code 2 = .ok (.bipush 8, 2) := by decide +kernel
theorem d_Cell_signAt_4 : decode prog_2_method_7_code 4 = .ok (.if_icmp .ge 7, 3) := by decide +kernel
theorem d_Cell_signAt_11 : decode prog_2_method_7_code 11 = .ok (.lload_n 2, 1) := by decide +kernel
theorem d_Cell_signAt_12 : decode prog_2_method_7_code 12 = .ok (.lstore 5, 2) := by decide +kernel
theorem d_Cell_signAt_14 : decode prog_2_method_7_code 14 = .ok (.lload 5, 2) := by decide +kernel
theorem d_Cell_signAt_16 : decode prog_2_method_7_code 16 = .ok (.bipush 7, 2) := by decide +kernel
theorem d_Cell_signAt_18 : decode prog_2_method_7_code 18 = .ok (.bipush 7, 2) := by decide +kernel
theorem d_Cell_signAt_20 : decode prog_2_method_7_code 20 = .ok (.iload 4, 2) := by decide +kernel
theorem d_Cell_signAt_22 : decode prog_2_method_7_code 22 = .ok (.bipush 7, 2) := by decide +kernel
theorem d_Cell_signAt_24 : decode prog_2_method_7_code 24 = .ok (.iand, 1) := by decide +kernel
theorem d_Cell_signAt_25 : decode prog_2_method_7_code 25 = .ok (.isub, 1) := by decide +kernel
theorem d_Cell_signAt_26 : decode prog_2_method_7_code 26 = .ok (.imul, 1) := by decide +kernel
theorem d_Cell_signAt_27 : decode prog_2_method_7_code 27 = .ok (.lushr, 1) := by decide +kernel
theorem d_Cell_signAt_28 : decode prog_2_method_7_code 28 = .ok (.l2i, 1) := by decide +kernel
theorem d_Cell_signAt_29 : decode prog_2_method_7_code 29 = .ok (.bipush 127, 2) := by decide +kernel
theorem d_Cell_signAt_31 : decode prog_2_method_7_code 31 = .ok (.iand, 1) := by decide +kernel
theorem d_Cell_signAt_32 : decode prog_2_method_7_code 32 = .ok (.ireturn, 1) := by decide +kernel
theorem d_Cell_signAt_7 : decode prog_2_method_7_code 7 = .ok (.lload_n 0, 1) := by decide +kernel
theorem d_Cell_signAt_8 : decode prog_2_method_7_code 8 = .ok (.goto 4, 3) := by decide +kernel
abbrev m_Lexer_isLetter : am_M := (⟨"StowTongue$Lexer", "isLetter", "(I)Z"⟩, prog_4_method_12_code, 1, (some FieldType.boolean))
theorem d_Lexer_isLetter_0 : decode prog_4_method_12_code 0 = .ok (.iload_n 0, 1) := by decide +kernel
theorem d_Lexer_isLetter_1 : decode prog_4_method_12_code 1 = .ok (.bipush 97, 2) := by decide +kernel
theorem d_Lexer_isLetter_3 : decode prog_4_method_12_code 3 = .ok (.if_icmp .lt 13, 3) := by decide +kernel
theorem d_Lexer_isLetter_16 : decode prog_4_method_12_code 16 = .ok (.iconst 0, 1) := by decide +kernel
theorem d_Lexer_isLetter_17 : decode prog_4_method_12_code 17 = .ok (.ireturn, 1) := by decide +kernel
theorem d_Lexer_isLetter_6 : decode prog_4_method_12_code 6 = .ok (.iload_n 0, 1) := by decide +kernel
theorem d_Lexer_isLetter_7 : decode prog_4_method_12_code 7 = .ok (.bipush 122, 2) := by decide +kernel
theorem d_Lexer_isLetter_9 : decode prog_4_method_12_code 9 = .ok (.if_icmp .gt 7, 3) := by decide +kernel
theorem d_Lexer_isLetter_12 : decode prog_4_method_12_code 12 = .ok (.iconst 1, 1) := by decide +kernel
theorem d_Lexer_isLetter_13 : decode prog_4_method_12_code 13 = .ok (.goto 4, 3) := by decide +kernel
abbrev m_Lexer_isDigit : am_M := (⟨"StowTongue$Lexer", "isDigit", "(I)Z"⟩, prog_4_method_13_code, 1, (some FieldType.boolean))
theorem d_Lexer_isDigit_0 : decode prog_4_method_13_code 0 = .ok (.iload_n 0, 1) := by decide +kernel
theorem d_Lexer_isDigit_1 : decode prog_4_method_13_code 1 = .ok (.bipush 48, 2) := by decide +kernel
theorem d_Lexer_isDigit_3 : decode prog_4_method_13_code 3 = .ok (.if_icmp .lt 13, 3) := by decide +kernel
theorem d_Lexer_isDigit_16 : decode prog_4_method_13_code 16 = .ok (.iconst 0, 1) := by decide +kernel
theorem d_Lexer_isDigit_17 : decode prog_4_method_13_code 17 = .ok (.ireturn, 1) := by decide +kernel
theorem d_Lexer_isDigit_6 : decode prog_4_method_13_code 6 = .ok (.iload_n 0, 1) := by decide +kernel
theorem d_Lexer_isDigit_7 : decode prog_4_method_13_code 7 = .ok (.bipush 57, 2) := by decide +kernel
theorem d_Lexer_isDigit_9 : decode prog_4_method_13_code 9 = .ok (.if_icmp .gt 7, 3) := by decide +kernel
theorem d_Lexer_isDigit_12 : decode prog_4_method_13_code 12 = .ok (.iconst 1, 1) := by decide +kernel
theorem d_Lexer_isDigit_13 : decode prog_4_method_13_code 13 = .ok (.goto 4, 3) := by decide +kernel
abbrev m_Lexer_isTextSign : am_M := (⟨"StowTongue$Lexer", "isTextSign", "(I)Z"⟩, prog_4_method_14_code, 1, (some FieldType.boolean))
theorem d_Lexer_isTextSign_0 : decode prog_4_method_14_code 0 = .ok (.iload_n 0, 1) := by decide +kernel
theorem d_Lexer_isTextSign_1 : decode prog_4_method_14_code 1 = .ok (.bipush 32, 2) := by decide +kernel
theorem d_Lexer_isTextSign_3 : decode prog_4_method_14_code 3 = .ok (.if_icmp .lt 19, 3) := by decide +kernel
theorem d_Lexer_isTextSign_22 : decode prog_4_method_14_code 22 = .ok (.iconst 0, 1) := by decide +kernel
theorem d_Lexer_isTextSign_23 : decode prog_4_method_14_code 23 = .ok (.ireturn, 1) := by decide +kernel
theorem d_Lexer_isTextSign_6 : decode prog_4_method_14_code 6 = .ok (.iload_n 0, 1) := by decide +kernel
theorem d_Lexer_isTextSign_7 : decode prog_4_method_14_code 7 = .ok (.bipush 126, 2) := by decide +kernel
theorem d_Lexer_isTextSign_9 : decode prog_4_method_14_code 9 = .ok (.if_icmp .gt 13, 3) := by decide +kernel
theorem d_Lexer_isTextSign_12 : decode prog_4_method_14_code 12 = .ok (.iload_n 0, 1) := by decide +kernel
theorem d_Lexer_isTextSign_13 : decode prog_4_method_14_code 13 = .ok (.bipush 34, 2) := by decide +kernel
theorem d_Lexer_isTextSign_15 : decode prog_4_method_14_code 15 = .ok (.if_icmp .eq 7, 3) := by decide +kernel
theorem d_Lexer_isTextSign_18 : decode prog_4_method_14_code 18 = .ok (.iconst 1, 1) := by decide +kernel
theorem d_Lexer_isTextSign_19 : decode prog_4_method_14_code 19 = .ok (.goto 4, 3) := by decide +kernel
abbrev m_Lexer_pairKind : am_M := (⟨"StowTongue$Lexer", "pairKind", "(II)I"⟩, prog_4_method_22_code, 2, (some FieldType.int))
theorem d_Lexer_pairKind_0 : decode prog_4_method_22_code 0 = .ok (.iload_n 1, 1) := by decide +kernel
theorem d_Lexer_pairKind_1 : decode prog_4_method_22_code 1 = .ok (.bipush 61, 2) := by decide +kernel
theorem d_Lexer_pairKind_3 : decode prog_4_method_22_code 3 = .ok (.if_icmp .ne 41, 3) := by decide +kernel
theorem d_Lexer_pairKind_44 : decode prog_4_method_22_code 44 = .ok (.iload_n 0, 1) := by decide +kernel
theorem d_Lexer_pairKind_45 : decode prog_4_method_22_code 45 = .ok (.iload_n 1, 1) := by decide +kernel
theorem d_Lexer_pairKind_46 : decode prog_4_method_22_code 46 = .ok (.if_icmp .ne 29, 3) := by decide +kernel
theorem d_Lexer_pairKind_75 : decode prog_4_method_22_code 75 = .ok (.iconst 1, 1) := by decide +kernel
theorem d_Lexer_pairKind_76 : decode prog_4_method_22_code 76 = .ok (.ireturn, 1) := by decide +kernel
theorem d_Lexer_pairKind_49 : decode prog_4_method_22_code 49 = .ok (.iload_n 0, 1) := by decide +kernel
theorem d_Lexer_pairKind_50 : decode prog_4_method_22_code 50 = .ok (.bipush 38, 2) := by decide +kernel
theorem d_Lexer_pairKind_52 : decode prog_4_method_22_code 52 = .ok (.if_icmp .ne 9, 3) := by decide +kernel
theorem d_Lexer_pairKind_61 : decode prog_4_method_22_code 61 = .ok (.iload_n 0, 1) := by decide +kernel
theorem d_Lexer_pairKind_62 : decode prog_4_method_22_code 62 = .ok (.bipush 124, 2) := by decide +kernel
theorem d_Lexer_pairKind_64 : decode prog_4_method_22_code 64 = .ok (.if_icmp .ne 9, 3) := by decide +kernel
theorem d_Lexer_pairKind_73 : decode prog_4_method_22_code 73 = .ok (.iconst 1, 1) := by decide +kernel
theorem d_Lexer_pairKind_74 : decode prog_4_method_22_code 74 = .ok (.ireturn, 1) := by decide +kernel
theorem d_Lexer_pairKind_67 : decode prog_4_method_22_code 67 = .ok (.sipush 260, 3) := by decide +kernel
theorem d_Lexer_pairKind_70 : decode prog_4_method_22_code 70 = .ok (.goto 4, 3) := by decide +kernel
theorem d_Lexer_pairKind_55 : decode prog_4_method_22_code 55 = .ok (.sipush 259, 3) := by decide +kernel
theorem d_Lexer_pairKind_58 : decode prog_4_method_22_code 58 = .ok (.goto 16, 3) := by decide +kernel
theorem d_Lexer_pairKind_6 : decode prog_4_method_22_code 6 = .ok (.iload_n 0, 1) := by decide +kernel
theorem d_Lexer_pairKind_7 : decode prog_4_method_22_code 7 = .ok (.bipush 61, 2) := by decide +kernel
theorem d_Lexer_pairKind_9 : decode prog_4_method_22_code 9 = .ok (.if_icmp .ne 9, 3) := by decide +kernel
theorem d_Lexer_pairKind_18 : decode prog_4_method_22_code 18 = .ok (.iload_n 0, 1) := by decide +kernel
theorem d_Lexer_pairKind_19 : decode prog_4_method_22_code 19 = .ok (.bipush 33, 2) := by decide +kernel
theorem d_Lexer_pairKind_21 : decode prog_4_method_22_code 21 = .ok (.if_icmp .ne 9, 3) := by decide +kernel
theorem d_Lexer_pairKind_30 : decode prog_4_method_22_code 30 = .ok (.iload_n 0, 1) := by decide +kernel
theorem d_Lexer_pairKind_31 : decode prog_4_method_22_code 31 = .ok (.bipush 60, 2) := by decide +kernel
theorem d_Lexer_pairKind_33 : decode prog_4_method_22_code 33 = .ok (.if_icmp .ne 9, 3) := by decide +kernel
theorem d_Lexer_pairKind_42 : decode prog_4_method_22_code 42 = .ok (.iconst 1, 1) := by decide +kernel
theorem d_Lexer_pairKind_43 : decode prog_4_method_22_code 43 = .ok (.ireturn, 1) := by decide +kernel
theorem d_Lexer_pairKind_36 : decode prog_4_method_22_code 36 = .ok (.sipush 258, 3) := by decide +kernel
theorem d_Lexer_pairKind_39 : decode prog_4_method_22_code 39 = .ok (.goto 4, 3) := by decide +kernel
theorem d_Lexer_pairKind_24 : decode prog_4_method_22_code 24 = .ok (.sipush 257, 3) := by decide +kernel
theorem d_Lexer_pairKind_27 : decode prog_4_method_22_code 27 = .ok (.goto 16, 3) := by decide +kernel
theorem d_Lexer_pairKind_12 : decode prog_4_method_22_code 12 = .ok (.sipush 256, 3) := by decide +kernel
theorem d_Lexer_pairKind_15 : decode prog_4_method_22_code 15 = .ok (.goto 28, 3) := by decide +kernel
abbrev m_Mach_storeFor : am_M := (⟨"StowTongue$Machine", "storeFor", "(I)I"⟩, prog_6_method_2_code, 1, (some FieldType.int))
theorem d_Mach_storeFor_0 : decode prog_6_method_2_code 0 = .ok (.iload_n 0, 1) := by decide +kernel
theorem d_Mach_storeFor_1 : decode prog_6_method_2_code 1 = .ok (.iconst 1, 1) := by decide +kernel
theorem d_Mach_storeFor_2 : decode prog_6_method_2_code 2 = .ok (.iadd, 1) := by decide +kernel
theorem d_Mach_storeFor_3 : decode prog_6_method_2_code 3 = .ok (.ireturn, 1) := by decide +kernel
abbrev m_Mod_in : am_M := (⟨"StowTongueModel", "in", "(JJJ)Z"⟩, prog_13_method_1_code, 6, (some FieldType.boolean))
theorem d_Mod_in_0 : decode prog_13_method_1_code 0 = .ok (.lload_n 0, 1) := by decide +kernel
theorem d_Mod_in_1 : decode prog_13_method_1_code 1 = .ok (.lload_n 2, 1) := by decide +kernel
theorem d_Mod_in_2 : decode prog_13_method_1_code 2 = .ok (.lcmp, 1) := by decide +kernel
theorem d_Mod_in_3 : decode prog_13_method_1_code 3 = .ok (.ifCond .lt 14, 3) := by decide +kernel
theorem d_Mod_in_17 : decode prog_13_method_1_code 17 = .ok (.iconst 0, 1) := by decide +kernel
theorem d_Mod_in_18 : decode prog_13_method_1_code 18 = .ok (.ireturn, 1) := by decide +kernel
theorem d_Mod_in_6 : decode prog_13_method_1_code 6 = .ok (.lload_n 0, 1) := by decide +kernel
theorem d_Mod_in_7 : decode prog_13_method_1_code 7 = .ok (.lload 4, 2) := by decide +kernel
theorem d_Mod_in_9 : decode prog_13_method_1_code 9 = .ok (.lcmp, 1) := by decide +kernel
theorem d_Mod_in_10 : decode prog_13_method_1_code 10 = .ok (.ifCond .gt 7, 3) := by decide +kernel
theorem d_Mod_in_13 : decode prog_13_method_1_code 13 = .ok (.iconst 1, 1) := by decide +kernel
theorem d_Mod_in_14 : decode prog_13_method_1_code 14 = .ok (.goto 4, 3) := by decide +kernel
abbrev m_Mod_isSmall : am_M := (⟨"StowTongueModel", "isSmall", "(I)Z"⟩, prog_13_method_2_code, 1, (some FieldType.boolean))
theorem d_Mod_isSmall_0 : decode prog_13_method_2_code 0 = .ok (.iload_n 0, 1) := by decide +kernel
theorem d_Mod_isSmall_1 : decode prog_13_method_2_code 1 = .ok (.bipush 97, 2) := by decide +kernel
theorem d_Mod_isSmall_3 : decode prog_13_method_2_code 3 = .ok (.if_icmp .lt 13, 3) := by decide +kernel
theorem d_Mod_isSmall_16 : decode prog_13_method_2_code 16 = .ok (.iconst 0, 1) := by decide +kernel
theorem d_Mod_isSmall_17 : decode prog_13_method_2_code 17 = .ok (.ireturn, 1) := by decide +kernel
theorem d_Mod_isSmall_6 : decode prog_13_method_2_code 6 = .ok (.iload_n 0, 1) := by decide +kernel
theorem d_Mod_isSmall_7 : decode prog_13_method_2_code 7 = .ok (.bipush 122, 2) := by decide +kernel
theorem d_Mod_isSmall_9 : decode prog_13_method_2_code 9 = .ok (.if_icmp .gt 7, 3) := by decide +kernel
theorem d_Mod_isSmall_12 : decode prog_13_method_2_code 12 = .ok (.iconst 1, 1) := by decide +kernel
theorem d_Mod_isSmall_13 : decode prog_13_method_2_code 13 = .ok (.goto 4, 3) := by decide +kernel
abbrev m_Mod_isDigit : am_M := (⟨"StowTongueModel", "isDigit", "(I)Z"⟩, prog_13_method_3_code, 1, (some FieldType.boolean))
theorem d_Mod_isDigit_0 : decode prog_13_method_3_code 0 = .ok (.iload_n 0, 1) := by decide +kernel
theorem d_Mod_isDigit_1 : decode prog_13_method_3_code 1 = .ok (.bipush 48, 2) := by decide +kernel
theorem d_Mod_isDigit_3 : decode prog_13_method_3_code 3 = .ok (.if_icmp .lt 13, 3) := by decide +kernel
theorem d_Mod_isDigit_16 : decode prog_13_method_3_code 16 = .ok (.iconst 0, 1) := by decide +kernel
theorem d_Mod_isDigit_17 : decode prog_13_method_3_code 17 = .ok (.ireturn, 1) := by decide +kernel
theorem d_Mod_isDigit_6 : decode prog_13_method_3_code 6 = .ok (.iload_n 0, 1) := by decide +kernel
theorem d_Mod_isDigit_7 : decode prog_13_method_3_code 7 = .ok (.bipush 57, 2) := by decide +kernel
theorem d_Mod_isDigit_9 : decode prog_13_method_3_code 9 = .ok (.if_icmp .gt 7, 3) := by decide +kernel
theorem d_Mod_isDigit_12 : decode prog_13_method_3_code 12 = .ok (.iconst 1, 1) := by decide +kernel
theorem d_Mod_isDigit_13 : decode prog_13_method_3_code 13 = .ok (.goto 4, 3) := by decide +kernel
abbrev m_Pars_levelOf : am_M := (⟨"StowTongue$Parser", "levelOf", "(I)I"⟩, prog_8_method_22_code, 1, (some FieldType.int))
theorem d_Pars_levelOf_0 : decode prog_8_method_22_code 0 = .ok (.iload_n 0, 1) := by decide +kernel
theorem d_Pars_levelOf_1 : decode prog_8_method_22_code 1 = .ok (.lookupswitch 109 #[(37, 107), (42, 107), (43, 105), (45, 105), (47, 107), (60, 103), (256, 103), (257, 103), (258, 103), (259, 101), (260, 99)], 99) := by decide +kernel
theorem d_Pars_levelOf_108 : decode prog_8_method_22_code 108 = .ok (.iconst 4, 1) := by decide +kernel
theorem d_Pars_levelOf_109 : decode prog_8_method_22_code 109 = .ok (.ireturn, 1) := by decide +kernel
theorem d_Pars_levelOf_106 : decode prog_8_method_22_code 106 = .ok (.iconst 3, 1) := by decide +kernel
theorem d_Pars_levelOf_107 : decode prog_8_method_22_code 107 = .ok (.ireturn, 1) := by decide +kernel
theorem d_Pars_levelOf_104 : decode prog_8_method_22_code 104 = .ok (.iconst 2, 1) := by decide +kernel
theorem d_Pars_levelOf_105 : decode prog_8_method_22_code 105 = .ok (.ireturn, 1) := by decide +kernel
theorem d_Pars_levelOf_102 : decode prog_8_method_22_code 102 = .ok (.iconst 1, 1) := by decide +kernel
theorem d_Pars_levelOf_103 : decode prog_8_method_22_code 103 = .ok (.ireturn, 1) := by decide +kernel
theorem d_Pars_levelOf_100 : decode prog_8_method_22_code 100 = .ok (.iconst 0, 1) := by decide +kernel
theorem d_Pars_levelOf_101 : decode prog_8_method_22_code 101 = .ok (.ireturn, 1) := by decide +kernel
theorem d_Pars_levelOf_110 : decode prog_8_method_22_code 110 = .ok (.iconst (-1), 1) := by decide +kernel
theorem d_Pars_levelOf_111 : decode prog_8_method_22_code 111 = .ok (.ireturn, 1) := by decide +kernel
abbrev m_Pars_commandOf : am_M := (⟨"StowTongue$Parser", "commandOf", "(I)I"⟩, prog_8_method_23_code, 1, (some FieldType.int))
theorem d_Pars_commandOf_0 : decode prog_8_method_23_code 0 = .ok (.iload_n 0, 1) := by decide +kernel
theorem d_Pars_commandOf_1 : decode prog_8_method_23_code 1 = .ok (.lookupswitch 99 #[(42, 93), (43, 87), (45, 90), (47, 96), (60, 81), (256, 75), (257, 78), (258, 84)], 75) := by decide +kernel
theorem d_Pars_commandOf_94 : decode prog_8_method_23_code 94 = .ok (.bipush 34, 2) := by decide +kernel
theorem d_Pars_commandOf_96 : decode prog_8_method_23_code 96 = .ok (.ireturn, 1) := by decide +kernel
theorem d_Pars_commandOf_88 : decode prog_8_method_23_code 88 = .ok (.bipush 32, 2) := by decide +kernel
theorem d_Pars_commandOf_90 : decode prog_8_method_23_code 90 = .ok (.ireturn, 1) := by decide +kernel
theorem d_Pars_commandOf_91 : decode prog_8_method_23_code 91 = .ok (.bipush 33, 2) := by decide +kernel
theorem d_Pars_commandOf_93 : decode prog_8_method_23_code 93 = .ok (.ireturn, 1) := by decide +kernel
theorem d_Pars_commandOf_97 : decode prog_8_method_23_code 97 = .ok (.bipush 35, 2) := by decide +kernel
theorem d_Pars_commandOf_99 : decode prog_8_method_23_code 99 = .ok (.ireturn, 1) := by decide +kernel
theorem d_Pars_commandOf_82 : decode prog_8_method_23_code 82 = .ok (.bipush 30, 2) := by decide +kernel
theorem d_Pars_commandOf_84 : decode prog_8_method_23_code 84 = .ok (.ireturn, 1) := by decide +kernel
theorem d_Pars_commandOf_76 : decode prog_8_method_23_code 76 = .ok (.bipush 28, 2) := by decide +kernel
theorem d_Pars_commandOf_78 : decode prog_8_method_23_code 78 = .ok (.ireturn, 1) := by decide +kernel
theorem d_Pars_commandOf_79 : decode prog_8_method_23_code 79 = .ok (.bipush 29, 2) := by decide +kernel
theorem d_Pars_commandOf_81 : decode prog_8_method_23_code 81 = .ok (.ireturn, 1) := by decide +kernel
theorem d_Pars_commandOf_85 : decode prog_8_method_23_code 85 = .ok (.bipush 31, 2) := by decide +kernel
theorem d_Pars_commandOf_87 : decode prog_8_method_23_code 87 = .ok (.ireturn, 1) := by decide +kernel
theorem d_Pars_commandOf_100 : decode prog_8_method_23_code 100 = .ok (.bipush 36, 2) := by decide +kernel
theorem d_Pars_commandOf_102 : decode prog_8_method_23_code 102 = .ok (.ireturn, 1) := by decide +kernel
theorem d_Stow_asAnswer_36 : decode prog_1_method_8_code 36 = .ok (.lload_n 2, 1) := by decide +kernel
theorem d_Stow_asAnswer_37 : decode prog_1_method_8_code 37 = .ok (.lreturn, 1) := by decide +kernel
theorem d_Stow_asAnswer_38 : decode prog_1_method_8_code 38 = .ok (.ldc2_w 130, 3) := by decide +kernel
theorem w_1379 : (Cond.constantLong "StowTongue" 130 1099511627777 : Cond) ∈ am_tbl := am_w 1379 (by decide +kernel) (by decide +kernel)
theorem d_Stow_asAnswer_41 : decode prog_1_method_8_code 41 = .ok (.lreturn, 1) := by decide +kernel
theorem d_Stow_asAnswer_42 : decode prog_1_method_8_code 42 = .ok (.ldc2_w 132, 3) := by decide +kernel
theorem w_1380 : (Cond.constantLong "StowTongue" 132 1099511627778 : Cond) ∈ am_tbl := am_w 1380 (by decide +kernel) (by decide +kernel)
theorem d_Stow_asAnswer_45 : decode prog_1_method_8_code 45 = .ok (.lreturn, 1) := by decide +kernel
theorem d_Stow_asAnswer_46 : decode prog_1_method_8_code 46 = .ok (.ldc2_w 134, 3) := by decide +kernel
theorem w_1381 : (Cond.constantLong "StowTongue" 134 1099511627779 : Cond) ∈ am_tbl := am_w 1381 (by decide +kernel) (by decide +kernel)
theorem d_Stow_asAnswer_49 : decode prog_1_method_8_code 49 = .ok (.lreturn, 1) := by decide +kernel
abbrev m_Cell_signsOf : am_M := (⟨"StowTongue$Cell", "signsOf", "(JJ)I"⟩, prog_2_method_8_code, 5, (some FieldType.int))
theorem w_1163 : (Cond.methodLink "StowTongue$Cell" 13 ⟨"StowTongue$Cell", "signAt", "(JJI)I"⟩ : Cond) ∈ am_tbl := am_w 1163 (by decide +kernel) (by decide +kernel)
set_option maxRecDepth 100000 in
theorem w_1165 : (Cond.code ⟨"StowTongue$Cell", "signAt", "(JJI)I"⟩ prog_2_method_7_code 7 (some FieldType.int) : Cond) ∈ am_tbl := am_w 1165 rfl rfl
theorem l_Cell_13 : am_L "StowTongue$Cell" 13 3 m_Cell_signAt := ⟨Or.inl w_1163, w_151, w_1165, ⟨by decide, by decide⟩, by decide +kernel, by decide⟩
theorem d_Cell_signsOf_0 : decode prog_2_method_8_code 0 = .ok (.iconst 0, 1) := by decide +kernel
theorem d_Cell_signsOf_1 : decode prog_2_method_8_code 1 = .ok (.istore 4, 2) := by decide +kernel
theorem d_Cell_signsOf_3 : decode prog_2_method_8_code 3 = .ok (.iload 4, 2) := by decide +kernel
theorem d_Cell_signsOf_5 : decode prog_2_method_8_code 5 = .ok (.bipush 16, 2) := by decide +kernel
theorem d_Cell_signsOf_7 : decode prog_2_method_8_code 7 = .ok (.if_icmp .ge 22, 3) := by decide +kernel
theorem d_Cell_signsOf_29 : decode prog_2_method_8_code 29 = .ok (.bipush 16, 2) := by decide +kernel
theorem d_Cell_signsOf_31 : decode prog_2_method_8_code 31 = .ok (.ireturn, 1) := by decide +kernel
theorem d_Cell_signsOf_10 : decode prog_2_method_8_code 10 = .ok (.lload_n 0, 1) := by decide +kernel
theorem d_Cell_signsOf_11 : decode prog_2_method_8_code 11 = .ok (.lload_n 2, 1) := by decide +kernel
theorem d_Cell_signsOf_12 : decode prog_2_method_8_code 12 = .ok (.iload 4, 2) := by decide +kernel
theorem w_1164 : (Cond.static ⟨"StowTongue$Cell", "signAt", "(JJI)I"⟩ : Cond) ∈ am_tbl := am_w 1164 (by decide +kernel) (by decide +kernel)
theorem d_Cell_signsOf_14 : decode prog_2_method_8_code 14 = .ok (.invokestatic 13, 3) := by decide +kernel
theorem d_Cell_signsOf_17 : decode prog_2_method_8_code 17 = .ok (.ifCond .ne 6, 3) := by decide +kernel
theorem d_Cell_signsOf_23 : decode prog_2_method_8_code 23 = .ok (.iinc 4 1, 3) := by decide +kernel
theorem d_Cell_signsOf_26 : decode prog_2_method_8_code 26 = .ok (.goto (-23), 3) := by decide +kernel
theorem d_Cell_signsOf_20 : decode prog_2_method_8_code 20 = .ok (.iload 4, 2) := by decide +kernel
theorem d_Cell_signsOf_22 : decode prog_2_method_8_code 22 = .ok (.ireturn, 1) := by decide +kernel
