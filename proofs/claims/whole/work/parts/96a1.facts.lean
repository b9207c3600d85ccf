abbrev m_Out_spilled : am_M := (⟨"StowTongue$Out", "spilled", "()Z"⟩, prog_7_method_4_code, 1, (some FieldType.boolean))
theorem d_Out_spilled_0 : decode prog_7_method_4_code 0 = .ok (.aload_n 0, 1) := by decide +kernel
theorem d_Out_spilled_1 : decode prog_7_method_4_code 1 = .ok (.getfield 19, 3) := by decide +kernel
theorem d_Out_spilled_4 : decode prog_7_method_4_code 4 = .ok (.ireturn, 1) := by decide +kernel
abbrev m_Out_addNumber : am_M := (⟨"StowTongue$Out", "addNumber", "(J)V"⟩, prog_7_method_8_code, 8, none)
theorem d_Out_addNumber_0 : decode prog_7_method_8_code 0 = .ok (.lload_n 1, 1) := by decide +kernel
theorem d_Out_addNumber_1 : decode prog_7_method_8_code 1 = .ok (.lconst 0, 1) := by decide +kernel
theorem d_Out_addNumber_2 : decode prog_7_method_8_code 2 = .ok (.lcmp, 1) := by decide +kernel
theorem d_Out_addNumber_3 : decode prog_7_method_8_code 3 = .ok (.ifCond .ge 9, 3) := by decide +kernel
theorem d_Out_addNumber_12 : decode prog_7_method_8_code 12 = .ok (.lload_n 1, 1) := by decide +kernel
theorem d_Out_addNumber_13 : decode prog_7_method_8_code 13 = .ok (.invokestatic 37, 3) := by decide +kernel
theorem w_1151 : (Cond.methodLink "StowTongue$Out" 37 ⟨"java/lang/Math", "abs", "(J)J"⟩ : Cond) ∈ am_tbl := am_w 1151 (by decide +kernel) (by decide +kernel)
theorem w_1152 : (Cond.static ⟨"java/lang/Math", "abs", "(J)J"⟩ : Cond) ∈ am_tbl := am_w 1152 (by decide +kernel) (by decide +kernel)
theorem w_164 : (Cond.initialized "java/lang/Math" : Cond) ∈ am_tbl := am_w 164 (by decide +kernel) (by decide +kernel)
set_option maxRecDepth 100000 in
theorem w_1153 : (Cond.code ⟨"java/lang/Math", "abs", "(J)J"⟩ prog_21_method_61_code 2 (some FieldType.long) : Cond) ∈ am_tbl := am_w 1153 rfl rfl
theorem d_Out_addNumber_16 : decode prog_7_method_8_code 16 = .ok (.lstore_n 3, 1) := by decide +kernel
theorem d_Out_addNumber_17 : decode prog_7_method_8_code 17 = .ok (.lconst 1, 1) := by decide +kernel
theorem d_Out_addNumber_18 : decode prog_7_method_8_code 18 = .ok (.lstore 5, 2) := by decide +kernel
theorem d_Out_addNumber_20 : decode prog_7_method_8_code 20 = .ok (.iconst 0, 1) := by decide +kernel
theorem d_Out_addNumber_21 : decode prog_7_method_8_code 21 = .ok (.istore 7, 2) := by decide +kernel
theorem d_Out_addNumber_23 : decode prog_7_method_8_code 23 = .ok (.iload 7, 2) := by decide +kernel
theorem d_Out_addNumber_25 : decode prog_7_method_8_code 25 = .ok (.bipush 10, 2) := by decide +kernel
theorem d_Out_addNumber_27 : decode prog_7_method_8_code 27 = .ok (.if_icmp .ge 28, 3) := by decide +kernel
theorem d_Out_addNumber_55 : decode prog_7_method_8_code 55 = .ok (.iconst 0, 1) := by decide +kernel
theorem d_Out_addNumber_56 : decode prog_7_method_8_code 56 = .ok (.istore 7, 2) := by decide +kernel
theorem d_Out_addNumber_58 : decode prog_7_method_8_code 58 = .ok (.iload 7, 2) := by decide +kernel
theorem d_Out_addNumber_60 : decode prog_7_method_8_code 60 = .ok (.bipush 11, 2) := by decide +kernel
theorem d_Out_addNumber_62 : decode prog_7_method_8_code 62 = .ok (.if_icmp .ge 41, 3) := by decide +kernel
theorem d_Out_addNumber_103 : decode prog_7_method_8_code 103 = .ok (.return_, 1) := by decide +kernel
theorem d_Out_addNumber_65 : decode prog_7_method_8_code 65 = .ok (.lload 5, 2) := by decide +kernel
theorem d_Out_addNumber_67 : decode prog_7_method_8_code 67 = .ok (.lconst 0, 1) := by decide +kernel
theorem d_Out_addNumber_68 : decode prog_7_method_8_code 68 = .ok (.lcmp, 1) := by decide +kernel
theorem d_Out_addNumber_69 : decode prog_7_method_8_code 69 = .ok (.ifCond .le 34, 3) := by decide +kernel
theorem d_Out_addNumber_72 : decode prog_7_method_8_code 72 = .ok (.aload_n 0, 1) := by decide +kernel
theorem d_Out_addNumber_73 : decode prog_7_method_8_code 73 = .ok (.ldc2_w 45, 3) := by decide +kernel
theorem w_1155 : (Cond.constantLong "StowTongue$Out" 45 48 : Cond) ∈ am_tbl := am_w 1155 (by decide +kernel) (by decide +kernel)
theorem d_Out_addNumber_76 : decode prog_7_method_8_code 76 = .ok (.lload_n 3, 1) := by decide +kernel
theorem d_Out_addNumber_77 : decode prog_7_method_8_code 77 = .ok (.lload 5, 2) := by decide +kernel
theorem d_Out_addNumber_79 : decode prog_7_method_8_code 79 = .ok (.ldiv, 1) := by decide +kernel
theorem d_Out_addNumber_80 : decode prog_7_method_8_code 80 = .ok (.ldc2_w 43, 3) := by decide +kernel
theorem w_1154 : (Cond.constantLong "StowTongue$Out" 43 10 : Cond) ∈ am_tbl := am_w 1154 (by decide +kernel) (by decide +kernel)
theorem d_Out_addNumber_83 : decode prog_7_method_8_code 83 = .ok (.lrem, 1) := by decide +kernel
theorem d_Out_addNumber_84 : decode prog_7_method_8_code 84 = .ok (.ladd, 1) := by decide +kernel
theorem d_Out_addNumber_85 : decode prog_7_method_8_code 85 = .ok (.l2i, 1) := by decide +kernel
theorem d_Out_addNumber_86 : decode prog_7_method_8_code 86 = .ok (.invokevirtual 33, 3) := by decide +kernel
theorem d_Out_addNumber_89 : decode prog_7_method_8_code 89 = .ok (.lload 5, 2) := by decide +kernel
theorem d_Out_addNumber_91 : decode prog_7_method_8_code 91 = .ok (.ldc2_w 43, 3) := by decide +kernel
theorem d_Out_addNumber_94 : decode prog_7_method_8_code 94 = .ok (.ldiv, 1) := by decide +kernel
theorem d_Out_addNumber_95 : decode prog_7_method_8_code 95 = .ok (.lstore 5, 2) := by decide +kernel
theorem d_Out_addNumber_97 : decode prog_7_method_8_code 97 = .ok (.iinc 7 1, 3) := by decide +kernel
theorem d_Out_addNumber_100 : decode prog_7_method_8_code 100 = .ok (.goto (-42), 3) := by decide +kernel
theorem d_Out_addNumber_30 : decode prog_7_method_8_code 30 = .ok (.lload_n 3, 1) := by decide +kernel
theorem d_Out_addNumber_31 : decode prog_7_method_8_code 31 = .ok (.lload 5, 2) := by decide +kernel
theorem d_Out_addNumber_33 : decode prog_7_method_8_code 33 = .ok (.ldiv, 1) := by decide +kernel
theorem d_Out_addNumber_34 : decode prog_7_method_8_code 34 = .ok (.ldc2_w 43, 3) := by decide +kernel
theorem d_Out_addNumber_37 : decode prog_7_method_8_code 37 = .ok (.lcmp, 1) := by decide +kernel
theorem d_Out_addNumber_38 : decode prog_7_method_8_code 38 = .ok (.ifCond .lt 17, 3) := by decide +kernel
theorem d_Out_addNumber_41 : decode prog_7_method_8_code 41 = .ok (.lload 5, 2) := by decide +kernel
theorem d_Out_addNumber_43 : decode prog_7_method_8_code 43 = .ok (.ldc2_w 43, 3) := by decide +kernel
theorem d_Out_addNumber_46 : decode prog_7_method_8_code 46 = .ok (.lmul, 1) := by decide +kernel
theorem d_Out_addNumber_47 : decode prog_7_method_8_code 47 = .ok (.lstore 5, 2) := by decide +kernel
theorem d_Out_addNumber_49 : decode prog_7_method_8_code 49 = .ok (.iinc 7 1, 3) := by decide +kernel
theorem d_Out_addNumber_52 : decode prog_7_method_8_code 52 = .ok (.goto (-29), 3) := by decide +kernel
theorem d_Out_addNumber_6 : decode prog_7_method_8_code 6 = .ok (.aload_n 0, 1) := by decide +kernel
theorem d_Out_addNumber_7 : decode prog_7_method_8_code 7 = .ok (.bipush 45, 2) := by decide +kernel
theorem d_Out_addNumber_9 : decode prog_7_method_8_code 9 = .ok (.invokevirtual 33, 3) := by decide +kernel
