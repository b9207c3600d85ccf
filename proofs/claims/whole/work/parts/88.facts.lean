abbrev m_Lexer_wordKind : am_M := (⟨"StowTongue$Lexer", "wordKind", "(J)I"⟩, prog_4_method_18_code, 4, (some FieldType.int))
theorem d_Lexer_wordKind_0 : decode prog_4_method_18_code 0 = .ok (.iconst 0, 1) := by decide +kernel
theorem d_Lexer_wordKind_1 : decode prog_4_method_18_code 1 = .ok (.istore_n 3, 1) := by decide +kernel
theorem d_Lexer_wordKind_2 : decode prog_4_method_18_code 2 = .ok (.iload_n 3, 1) := by decide +kernel
theorem d_Lexer_wordKind_3 : decode prog_4_method_18_code 3 = .ok (.bipush 12, 2) := by decide +kernel
theorem d_Lexer_wordKind_5 : decode prog_4_method_18_code 5 = .ok (.if_icmp .ge 24, 3) := by decide +kernel
theorem d_Lexer_wordKind_29 : decode prog_4_method_18_code 29 = .ok (.iconst 2, 1) := by decide +kernel
theorem d_Lexer_wordKind_30 : decode prog_4_method_18_code 30 = .ok (.ireturn, 1) := by decide +kernel
theorem d_Lexer_wordKind_8 : decode prog_4_method_18_code 8 = .ok (.aload_n 0, 1) := by decide +kernel
theorem d_Lexer_wordKind_9 : decode prog_4_method_18_code 9 = .ok (.getfield 11, 3) := by decide +kernel
theorem d_Lexer_wordKind_12 : decode prog_4_method_18_code 12 = .ok (.iload_n 3, 1) := by decide +kernel
theorem d_Lexer_wordKind_13 : decode prog_4_method_18_code 13 = .ok (.laload, 1) := by decide +kernel
theorem d_Lexer_wordKind_14 : decode prog_4_method_18_code 14 = .ok (.lload_n 1, 1) := by decide +kernel
theorem d_Lexer_wordKind_15 : decode prog_4_method_18_code 15 = .ok (.lcmp, 1) := by decide +kernel
theorem d_Lexer_wordKind_16 : decode prog_4_method_18_code 16 = .ok (.ifCond .ne 7, 3) := by decide +kernel
theorem d_Lexer_wordKind_23 : decode prog_4_method_18_code 23 = .ok (.iinc 3 1, 3) := by decide +kernel
theorem d_Lexer_wordKind_26 : decode prog_4_method_18_code 26 = .ok (.goto (-24), 3) := by decide +kernel
theorem d_Lexer_wordKind_19 : decode prog_4_method_18_code 19 = .ok (.iconst 5, 1) := by decide +kernel
theorem d_Lexer_wordKind_20 : decode prog_4_method_18_code 20 = .ok (.iload_n 3, 1) := by decide +kernel
theorem d_Lexer_wordKind_21 : decode prog_4_method_18_code 21 = .ok (.iadd, 1) := by decide +kernel
theorem d_Lexer_wordKind_22 : decode prog_4_method_18_code 22 = .ok (.ireturn, 1) := by decide +kernel
abbrev m_Out_byteAt : am_M := (⟨"StowTongue$Out", "byteAt", "(I)I"⟩, prog_7_method_5_code, 2, (some FieldType.int))
theorem d_Out_byteAt_0 : decode prog_7_method_5_code 0 = .ok (.iload_n 1, 1) := by decide +kernel
theorem d_Out_byteAt_1 : decode prog_7_method_5_code 1 = .ok (.ifCond .lt 20, 3) := by decide +kernel
theorem d_Out_byteAt_21 : decode prog_7_method_5_code 21 = .ok (.bipush (-2), 2) := by decide +kernel
theorem d_Out_byteAt_23 : decode prog_7_method_5_code 23 = .ok (.ireturn, 1) := by decide +kernel
theorem d_Out_byteAt_4 : decode prog_7_method_5_code 4 = .ok (.iload_n 1, 1) := by decide +kernel
theorem d_Out_byteAt_5 : decode prog_7_method_5_code 5 = .ok (.aload_n 0, 1) := by decide +kernel
theorem d_Out_byteAt_6 : decode prog_7_method_5_code 6 = .ok (.getfield 15, 3) := by decide +kernel
theorem d_Out_byteAt_9 : decode prog_7_method_5_code 9 = .ok (.if_icmp .ge 12, 3) := by decide +kernel
theorem d_Out_byteAt_12 : decode prog_7_method_5_code 12 = .ok (.aload_n 0, 1) := by decide +kernel
theorem d_Out_byteAt_13 : decode prog_7_method_5_code 13 = .ok (.getfield 11, 3) := by decide +kernel
theorem d_Out_byteAt_16 : decode prog_7_method_5_code 16 = .ok (.iload_n 1, 1) := by decide +kernel
theorem d_Out_byteAt_17 : decode prog_7_method_5_code 17 = .ok (.baload, 1) := by decide +kernel
theorem d_Out_byteAt_18 : decode prog_7_method_5_code 18 = .ok (.goto 5, 3) := by decide +kernel
