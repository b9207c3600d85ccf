abbrev m_Store_rootsChangedSince : am_M := (⟨"StowTongue$Store", "rootsChangedSince", "(LStowTongue$Store;)I"⟩, prog_9_method_25_code, 5, (some FieldType.int))
theorem d_Store_rootsChangedSince_0 : decode prog_9_method_25_code 0 = .ok (.iconst 0, 1) := by decide +kernel
theorem d_Store_rootsChangedSince_1 : decode prog_9_method_25_code 1 = .ok (.istore_n 2, 1) := by decide +kernel
theorem d_Store_rootsChangedSince_2 : decode prog_9_method_25_code 2 = .ok (.iconst 0, 1) := by decide +kernel
theorem d_Store_rootsChangedSince_3 : decode prog_9_method_25_code 3 = .ok (.istore_n 3, 1) := by decide +kernel
theorem d_Store_rootsChangedSince_4 : decode prog_9_method_25_code 4 = .ok (.iload_n 3, 1) := by decide +kernel
theorem d_Store_rootsChangedSince_5 : decode prog_9_method_25_code 5 = .ok (.aload_n 0, 1) := by decide +kernel
theorem d_Store_rootsChangedSince_6 : decode prog_9_method_25_code 6 = .ok (.getfield 47, 3) := by decide +kernel
theorem d_Store_rootsChangedSince_9 : decode prog_9_method_25_code 9 = .ok (.if_icmp .ge 63, 3) := by decide +kernel
theorem d_Store_rootsChangedSince_72 : decode prog_9_method_25_code 72 = .ok (.iconst 0, 1) := by decide +kernel
theorem d_Store_rootsChangedSince_73 : decode prog_9_method_25_code 73 = .ok (.istore_n 3, 1) := by decide +kernel
theorem d_Store_rootsChangedSince_74 : decode prog_9_method_25_code 74 = .ok (.iload_n 3, 1) := by decide +kernel
theorem d_Store_rootsChangedSince_75 : decode prog_9_method_25_code 75 = .ok (.aload_n 1, 1) := by decide +kernel
theorem d_Store_rootsChangedSince_76 : decode prog_9_method_25_code 76 = .ok (.getfield 47, 3) := by decide +kernel
theorem d_Store_rootsChangedSince_79 : decode prog_9_method_25_code 79 = .ok (.if_icmp .ge 25, 3) := by decide +kernel
theorem d_Store_rootsChangedSince_104 : decode prog_9_method_25_code 104 = .ok (.iload_n 2, 1) := by decide +kernel
theorem d_Store_rootsChangedSince_105 : decode prog_9_method_25_code 105 = .ok (.ireturn, 1) := by decide +kernel
theorem d_Store_rootsChangedSince_82 : decode prog_9_method_25_code 82 = .ok (.aload_n 0, 1) := by decide +kernel
theorem d_Store_rootsChangedSince_83 : decode prog_9_method_25_code 83 = .ok (.aload_n 1, 1) := by decide +kernel
theorem d_Store_rootsChangedSince_84 : decode prog_9_method_25_code 84 = .ok (.getfield 20, 3) := by decide +kernel
theorem d_Store_rootsChangedSince_87 : decode prog_9_method_25_code 87 = .ok (.iload_n 3, 1) := by decide +kernel
theorem d_Store_rootsChangedSince_88 : decode prog_9_method_25_code 88 = .ok (.laload, 1) := by decide +kernel
theorem d_Store_rootsChangedSince_89 : decode prog_9_method_25_code 89 = .ok (.invokevirtual 83, 3) := by decide +kernel
theorem w_1201 : (Cond.methodLink "StowTongue$Store" 83 ⟨"StowTongue$Store", "rootAt", "(J)I"⟩ : Cond) ∈ am_tbl := am_w 1201 (by decide +kernel) (by decide +kernel)
set_option maxRecDepth 100000 in
theorem w_1192 : (Cond.code ⟨"StowTongue$Store", "rootAt", "(J)I"⟩ prog_9_method_15_code 4 (some FieldType.int) : Cond) ∈ am_tbl := am_w 1192 rfl rfl
theorem l_Store_83 : am_L "StowTongue$Store" 83 1 m_Store_rootAt := ⟨Or.inl w_1201, w_169, w_1192, ⟨by decide, by decide⟩, by decide +kernel, by decide⟩
theorem w_1190 : (Cond.instanceMethod ⟨"StowTongue$Store", "rootAt", "(J)I"⟩ : Cond) ∈ am_tbl := am_w 1190 (by decide +kernel) (by decide +kernel)
theorem w_1191 : (Cond.selects "StowTongue$Store" ⟨"StowTongue$Store", "rootAt", "(J)I"⟩ ⟨"StowTongue$Store", "rootAt", "(J)I"⟩ : Cond) ∈ am_tbl := am_w 1191 (by decide +kernel) (by decide +kernel)
theorem d_Store_rootsChangedSince_92 : decode prog_9_method_25_code 92 = .ok (.ifCond .ge 6, 3) := by decide +kernel
theorem d_Store_rootsChangedSince_98 : decode prog_9_method_25_code 98 = .ok (.iinc 3 1, 3) := by decide +kernel
theorem d_Store_rootsChangedSince_101 : decode prog_9_method_25_code 101 = .ok (.goto (-27), 3) := by decide +kernel
theorem d_Store_rootsChangedSince_95 : decode prog_9_method_25_code 95 = .ok (.iinc 2 1, 3) := by decide +kernel
theorem d_Store_rootsChangedSince_12 : decode prog_9_method_25_code 12 = .ok (.aload_n 1, 1) := by decide +kernel
theorem d_Store_rootsChangedSince_13 : decode prog_9_method_25_code 13 = .ok (.aload_n 0, 1) := by decide +kernel
theorem d_Store_rootsChangedSince_14 : decode prog_9_method_25_code 14 = .ok (.getfield 20, 3) := by decide +kernel
theorem d_Store_rootsChangedSince_17 : decode prog_9_method_25_code 17 = .ok (.iload_n 3, 1) := by decide +kernel
theorem d_Store_rootsChangedSince_18 : decode prog_9_method_25_code 18 = .ok (.laload, 1) := by decide +kernel
theorem d_Store_rootsChangedSince_19 : decode prog_9_method_25_code 19 = .ok (.invokevirtual 83, 3) := by decide +kernel
theorem d_Store_rootsChangedSince_22 : decode prog_9_method_25_code 22 = .ok (.istore 4, 2) := by decide +kernel
theorem d_Store_rootsChangedSince_24 : decode prog_9_method_25_code 24 = .ok (.iload 4, 2) := by decide +kernel
theorem d_Store_rootsChangedSince_26 : decode prog_9_method_25_code 26 = .ok (.ifCond .lt 37, 3) := by decide +kernel
theorem d_Store_rootsChangedSince_63 : decode prog_9_method_25_code 63 = .ok (.iinc 2 1, 3) := by decide +kernel
theorem d_Store_rootsChangedSince_66 : decode prog_9_method_25_code 66 = .ok (.iinc 3 1, 3) := by decide +kernel
theorem d_Store_rootsChangedSince_69 : decode prog_9_method_25_code 69 = .ok (.goto (-65), 3) := by decide +kernel
theorem d_Store_rootsChangedSince_29 : decode prog_9_method_25_code 29 = .ok (.aload_n 1, 1) := by decide +kernel
theorem d_Store_rootsChangedSince_30 : decode prog_9_method_25_code 30 = .ok (.getfield 23, 3) := by decide +kernel
theorem d_Store_rootsChangedSince_33 : decode prog_9_method_25_code 33 = .ok (.iload 4, 2) := by decide +kernel
theorem d_Store_rootsChangedSince_35 : decode prog_9_method_25_code 35 = .ok (.laload, 1) := by decide +kernel
theorem d_Store_rootsChangedSince_36 : decode prog_9_method_25_code 36 = .ok (.aload_n 0, 1) := by decide +kernel
theorem d_Store_rootsChangedSince_37 : decode prog_9_method_25_code 37 = .ok (.getfield 23, 3) := by decide +kernel
theorem d_Store_rootsChangedSince_40 : decode prog_9_method_25_code 40 = .ok (.iload_n 3, 1) := by decide +kernel
theorem d_Store_rootsChangedSince_41 : decode prog_9_method_25_code 41 = .ok (.laload, 1) := by decide +kernel
theorem d_Store_rootsChangedSince_42 : decode prog_9_method_25_code 42 = .ok (.lcmp, 1) := by decide +kernel
theorem d_Store_rootsChangedSince_43 : decode prog_9_method_25_code 43 = .ok (.ifCond .ne 20, 3) := by decide +kernel
theorem d_Store_rootsChangedSince_46 : decode prog_9_method_25_code 46 = .ok (.aload_n 1, 1) := by decide +kernel
theorem d_Store_rootsChangedSince_47 : decode prog_9_method_25_code 47 = .ok (.getfield 26, 3) := by decide +kernel
theorem d_Store_rootsChangedSince_50 : decode prog_9_method_25_code 50 = .ok (.iload 4, 2) := by decide +kernel
theorem d_Store_rootsChangedSince_52 : decode prog_9_method_25_code 52 = .ok (.laload, 1) := by decide +kernel
theorem d_Store_rootsChangedSince_53 : decode prog_9_method_25_code 53 = .ok (.aload_n 0, 1) := by decide +kernel
theorem d_Store_rootsChangedSince_54 : decode prog_9_method_25_code 54 = .ok (.getfield 26, 3) := by decide +kernel
theorem d_Store_rootsChangedSince_57 : decode prog_9_method_25_code 57 = .ok (.iload_n 3, 1) := by decide +kernel
theorem d_Store_rootsChangedSince_58 : decode prog_9_method_25_code 58 = .ok (.laload, 1) := by decide +kernel
theorem d_Store_rootsChangedSince_59 : decode prog_9_method_25_code 59 = .ok (.lcmp, 1) := by decide +kernel
theorem d_Store_rootsChangedSince_60 : decode prog_9_method_25_code 60 = .ok (.ifCond .eq 6, 3) := by decide +kernel
abbrev m_Log_settleOldest : am_M := (⟨"StowTongue$Log", "settleOldest", "()V"⟩, prog_5_method_8_code, 3, none)
theorem d_Log_settleOldest_0 : decode prog_5_method_8_code 0 = .ok (.aload_n 0, 1) := by decide +kernel
theorem d_Log_settleOldest_1 : decode prog_5_method_8_code 1 = .ok (.getfield 11, 3) := by decide +kernel
theorem d_Log_settleOldest_4 : decode prog_5_method_8_code 4 = .ok (.iconst 0, 1) := by decide +kernel
theorem d_Log_settleOldest_5 : decode prog_5_method_8_code 5 = .ok (.aaload, 1) := by decide +kernel
theorem d_Log_settleOldest_6 : decode prog_5_method_8_code 6 = .ok (.astore_n 1, 1) := by decide +kernel
theorem d_Log_settleOldest_7 : decode prog_5_method_8_code 7 = .ok (.aload_n 0, 1) := by decide +kernel
theorem d_Log_settleOldest_8 : decode prog_5_method_8_code 8 = .ok (.dup, 1) := by decide +kernel
theorem d_Log_settleOldest_9 : decode prog_5_method_8_code 9 = .ok (.getfield 50, 3) := by decide +kernel
theorem d_Log_settleOldest_12 : decode prog_5_method_8_code 12 = .ok (.aload_n 0, 1) := by decide +kernel
theorem d_Log_settleOldest_13 : decode prog_5_method_8_code 13 = .ok (.getfield 15, 3) := by decide +kernel
theorem d_Log_settleOldest_16 : decode prog_5_method_8_code 16 = .ok (.iconst 1, 1) := by decide +kernel
theorem d_Log_settleOldest_17 : decode prog_5_method_8_code 17 = .ok (.iaload, 1) := by decide +kernel
theorem d_Log_settleOldest_18 : decode prog_5_method_8_code 18 = .ok (.iadd, 1) := by decide +kernel
theorem d_Log_settleOldest_19 : decode prog_5_method_8_code 19 = .ok (.putfield 50, 3) := by decide +kernel
theorem d_Log_settleOldest_22 : decode prog_5_method_8_code 22 = .ok (.iconst 0, 1) := by decide +kernel
theorem d_Log_settleOldest_23 : decode prog_5_method_8_code 23 = .ok (.istore_n 2, 1) := by decide +kernel
theorem d_Log_settleOldest_24 : decode prog_5_method_8_code 24 = .ok (.iload_n 2, 1) := by decide +kernel
theorem d_Log_settleOldest_25 : decode prog_5_method_8_code 25 = .ok (.iconst 1, 1) := by decide +kernel
theorem d_Log_settleOldest_26 : decode prog_5_method_8_code 26 = .ok (.iadd, 1) := by decide +kernel
theorem d_Log_settleOldest_27 : decode prog_5_method_8_code 27 = .ok (.bipush 10, 2) := by decide +kernel
theorem d_Log_settleOldest_29 : decode prog_5_method_8_code 29 = .ok (.if_icmp .ge 37, 3) := by decide +kernel
theorem d_Log_settleOldest_66 : decode prog_5_method_8_code 66 = .ok (.aload_n 0, 1) := by decide +kernel
theorem d_Log_settleOldest_67 : decode prog_5_method_8_code 67 = .ok (.getfield 11, 3) := by decide +kernel
theorem d_Log_settleOldest_70 : decode prog_5_method_8_code 70 = .ok (.bipush 9, 2) := by decide +kernel
theorem d_Log_settleOldest_72 : decode prog_5_method_8_code 72 = .ok (.aload_n 1, 1) := by decide +kernel
theorem d_Log_settleOldest_73 : decode prog_5_method_8_code 73 = .ok (.aastore, 1) := by decide +kernel
theorem d_Log_settleOldest_74 : decode prog_5_method_8_code 74 = .ok (.aload_n 0, 1) := by decide +kernel
theorem d_Log_settleOldest_75 : decode prog_5_method_8_code 75 = .ok (.dup, 1) := by decide +kernel
theorem d_Log_settleOldest_76 : decode prog_5_method_8_code 76 = .ok (.getfield 27, 3) := by decide +kernel
theorem d_Log_settleOldest_79 : decode prog_5_method_8_code 79 = .ok (.iconst 1, 1) := by decide +kernel
theorem d_Log_settleOldest_80 : decode prog_5_method_8_code 80 = .ok (.isub, 1) := by decide +kernel
theorem d_Log_settleOldest_81 : decode prog_5_method_8_code 81 = .ok (.putfield 27, 3) := by decide +kernel
theorem d_Log_settleOldest_84 : decode prog_5_method_8_code 84 = .ok (.return_, 1) := by decide +kernel
theorem d_Log_settleOldest_32 : decode prog_5_method_8_code 32 = .ok (.aload_n 0, 1) := by decide +kernel
theorem d_Log_settleOldest_33 : decode prog_5_method_8_code 33 = .ok (.getfield 11, 3) := by decide +kernel
theorem d_Log_settleOldest_36 : decode prog_5_method_8_code 36 = .ok (.iload_n 2, 1) := by decide +kernel
theorem d_Log_settleOldest_37 : decode prog_5_method_8_code 37 = .ok (.aload_n 0, 1) := by decide +kernel
theorem d_Log_settleOldest_38 : decode prog_5_method_8_code 38 = .ok (.getfield 11, 3) := by decide +kernel
theorem d_Log_settleOldest_41 : decode prog_5_method_8_code 41 = .ok (.iload_n 2, 1) := by decide +kernel
theorem d_Log_settleOldest_42 : decode prog_5_method_8_code 42 = .ok (.iconst 1, 1) := by decide +kernel
theorem d_Log_settleOldest_43 : decode prog_5_method_8_code 43 = .ok (.iadd, 1) := by decide +kernel
theorem d_Log_settleOldest_44 : decode prog_5_method_8_code 44 = .ok (.aaload, 1) := by decide +kernel
theorem d_Log_settleOldest_45 : decode prog_5_method_8_code 45 = .ok (.aastore, 1) := by decide +kernel
theorem d_Log_settleOldest_46 : decode prog_5_method_8_code 46 = .ok (.aload_n 0, 1) := by decide +kernel
theorem d_Log_settleOldest_47 : decode prog_5_method_8_code 47 = .ok (.getfield 15, 3) := by decide +kernel
theorem d_Log_settleOldest_50 : decode prog_5_method_8_code 50 = .ok (.iload_n 2, 1) := by decide +kernel
theorem d_Log_settleOldest_51 : decode prog_5_method_8_code 51 = .ok (.aload_n 0, 1) := by decide +kernel
theorem d_Log_settleOldest_52 : decode prog_5_method_8_code 52 = .ok (.getfield 15, 3) := by decide +kernel
theorem d_Log_settleOldest_55 : decode prog_5_method_8_code 55 = .ok (.iload_n 2, 1) := by decide +kernel
theorem d_Log_settleOldest_56 : decode prog_5_method_8_code 56 = .ok (.iconst 1, 1) := by decide +kernel
theorem d_Log_settleOldest_57 : decode prog_5_method_8_code 57 = .ok (.iadd, 1) := by decide +kernel
theorem d_Log_settleOldest_58 : decode prog_5_method_8_code 58 = .ok (.iaload, 1) := by decide +kernel
theorem d_Log_settleOldest_59 : decode prog_5_method_8_code 59 = .ok (.iastore, 1) := by decide +kernel
theorem d_Log_settleOldest_60 : decode prog_5_method_8_code 60 = .ok (.iinc 2 1, 3) := by decide +kernel
theorem d_Log_settleOldest_63 : decode prog_5_method_8_code 63 = .ok (.goto (-39), 3) := by decide +kernel
theorem d_Lexer_wholeName_5 : decode prog_4_method_11_code 5 = .ok (.iload_n 1, 1) := by decide +kernel
theorem d_Lexer_wholeName_6 : decode prog_4_method_11_code 6 = .ok (.bipush 8, 2) := by decide +kernel
theorem d_Lexer_wholeName_8 : decode prog_4_method_11_code 8 = .ok (.if_icmp .gt 18, 3) := by decide +kernel
theorem d_Lexer_wholeName_11 : decode prog_4_method_11_code 11 = .ok (.iload_n 1, 1) := by decide +kernel
theorem d_Lexer_wholeName_12 : decode prog_4_method_11_code 12 = .ok (.aload_n 0, 1) := by decide +kernel
theorem d_Lexer_wholeName_13 : decode prog_4_method_11_code 13 = .ok (.arraylength, 1) := by decide +kernel
theorem d_Lexer_wholeName_14 : decode prog_4_method_11_code 14 = .ok (.if_icmp .gt 12, 3) := by decide +kernel
theorem d_Lexer_wholeName_17 : decode prog_4_method_11_code 17 = .ok (.aload_n 0, 1) := by decide +kernel
theorem d_Lexer_wholeName_18 : decode prog_4_method_11_code 18 = .ok (.iconst 0, 1) := by decide +kernel
theorem d_Lexer_wholeName_19 : decode prog_4_method_11_code 19 = .ok (.baload, 1) := by decide +kernel
theorem d_Lexer_wholeName_20 : decode prog_4_method_11_code 20 = .ok (.invokestatic 68, 3) := by decide +kernel
theorem d_Lexer_wholeName_23 : decode prog_4_method_11_code 23 = .ok (.ifCond .ne 5, 3) := by decide +kernel
theorem d_Lexer_wholeName_28 : decode prog_4_method_11_code 28 = .ok (.lconst 0, 1) := by decide +kernel
theorem d_Lexer_wholeName_29 : decode prog_4_method_11_code 29 = .ok (.lstore_n 2, 1) := by decide +kernel
theorem d_Lexer_wholeName_30 : decode prog_4_method_11_code 30 = .ok (.iconst 0, 1) := by decide +kernel
theorem d_Lexer_wholeName_31 : decode prog_4_method_11_code 31 = .ok (.istore 4, 2) := by decide +kernel
theorem d_Lexer_wholeName_33 : decode prog_4_method_11_code 33 = .ok (.iload 4, 2) := by decide +kernel
theorem d_Lexer_wholeName_35 : decode prog_4_method_11_code 35 = .ok (.iload_n 1, 1) := by decide +kernel
theorem d_Lexer_wholeName_36 : decode prog_4_method_11_code 36 = .ok (.if_icmp .ge 43, 3) := by decide +kernel
theorem d_Lexer_wholeName_79 : decode prog_4_method_11_code 79 = .ok (.lload_n 2, 1) := by decide +kernel
theorem d_Lexer_wholeName_80 : decode prog_4_method_11_code 80 = .ok (.lreturn, 1) := by decide +kernel
theorem d_Lexer_wholeName_39 : decode prog_4_method_11_code 39 = .ok (.aload_n 0, 1) := by decide +kernel
theorem d_Lexer_wholeName_40 : decode prog_4_method_11_code 40 = .ok (.iload 4, 2) := by decide +kernel
theorem d_Lexer_wholeName_42 : decode prog_4_method_11_code 42 = .ok (.baload, 1) := by decide +kernel
theorem d_Lexer_wholeName_43 : decode prog_4_method_11_code 43 = .ok (.invokestatic 68, 3) := by decide +kernel
theorem d_Lexer_wholeName_46 : decode prog_4_method_11_code 46 = .ok (.ifCond .ne 15, 3) := by decide +kernel
theorem d_Lexer_wholeName_49 : decode prog_4_method_11_code 49 = .ok (.aload_n 0, 1) := by decide +kernel
theorem d_Lexer_wholeName_50 : decode prog_4_method_11_code 50 = .ok (.iload 4, 2) := by decide +kernel
theorem d_Lexer_wholeName_52 : decode prog_4_method_11_code 52 = .ok (.baload, 1) := by decide +kernel
theorem d_Lexer_wholeName_53 : decode prog_4_method_11_code 53 = .ok (.invokestatic 75, 3) := by decide +kernel
theorem d_Lexer_wholeName_56 : decode prog_4_method_11_code 56 = .ok (.ifCond .ne 5, 3) := by decide +kernel
theorem d_Lexer_wholeName_59 : decode prog_4_method_11_code 59 = .ok (.lconst 0, 1) := by decide +kernel
theorem d_Lexer_wholeName_60 : decode prog_4_method_11_code 60 = .ok (.lreturn, 1) := by decide +kernel
theorem d_Lexer_wholeName_61 : decode prog_4_method_11_code 61 = .ok (.lload_n 2, 1) := by decide +kernel
theorem d_Lexer_wholeName_62 : decode prog_4_method_11_code 62 = .ok (.aload_n 0, 1) := by decide +kernel
theorem d_Lexer_wholeName_63 : decode prog_4_method_11_code 63 = .ok (.iload 4, 2) := by decide +kernel
theorem d_Lexer_wholeName_65 : decode prog_4_method_11_code 65 = .ok (.baload, 1) := by decide +kernel
theorem d_Lexer_wholeName_66 : decode prog_4_method_11_code 66 = .ok (.iload 4, 2) := by decide +kernel
theorem d_Lexer_wholeName_68 : decode prog_4_method_11_code 68 = .ok (.invokestatic 31, 3) := by decide +kernel
theorem d_Lexer_wholeName_71 : decode prog_4_method_11_code 71 = .ok (.lor, 1) := by decide +kernel
theorem d_Lexer_wholeName_72 : decode prog_4_method_11_code 72 = .ok (.lstore_n 2, 1) := by decide +kernel
theorem d_Lexer_wholeName_73 : decode prog_4_method_11_code 73 = .ok (.iinc 4 1, 3) := by decide +kernel
theorem d_Lexer_wholeName_76 : decode prog_4_method_11_code 76 = .ok (.goto (-43), 3) := by decide +kernel
abbrev m_Log_wholeWithin : am_M := (⟨"StowTongue$Log", "wholeWithin", "(I)I"⟩, prog_5_method_10_code, 4, (some FieldType.int))
theorem d_Log_wholeWithin_0 : decode prog_5_method_10_code 0 = .ok (.iload_n 1, 1) := by decide +kernel
theorem d_Log_wholeWithin_1 : decode prog_5_method_10_code 1 = .ok (.istore_n 2, 1) := by decide +kernel
theorem d_Log_wholeWithin_2 : decode prog_5_method_10_code 2 = .ok (.iconst 1, 1) := by decide +kernel
theorem d_Log_wholeWithin_3 : decode prog_5_method_10_code 3 = .ok (.istore_n 3, 1) := by decide +kernel
theorem d_Log_wholeWithin_4 : decode prog_5_method_10_code 4 = .ok (.iload_n 3, 1) := by decide +kernel
theorem d_Log_wholeWithin_5 : decode prog_5_method_10_code 5 = .ok (.aload_n 0, 1) := by decide +kernel
theorem d_Log_wholeWithin_6 : decode prog_5_method_10_code 6 = .ok (.getfield 27, 3) := by decide +kernel
theorem d_Log_wholeWithin_9 : decode prog_5_method_10_code 9 = .ok (.if_icmp .gt 32, 3) := by decide +kernel
theorem d_Log_wholeWithin_41 : decode prog_5_method_10_code 41 = .ok (.aload_n 0, 1) := by decide +kernel
theorem d_Log_wholeWithin_42 : decode prog_5_method_10_code 42 = .ok (.getfield 27, 3) := by decide +kernel
theorem d_Log_wholeWithin_45 : decode prog_5_method_10_code 45 = .ok (.ireturn, 1) := by decide +kernel
theorem d_Log_wholeWithin_12 : decode prog_5_method_10_code 12 = .ok (.aload_n 0, 1) := by decide +kernel
theorem d_Log_wholeWithin_13 : decode prog_5_method_10_code 13 = .ok (.getfield 15, 3) := by decide +kernel
theorem d_Log_wholeWithin_16 : decode prog_5_method_10_code 16 = .ok (.iload_n 3, 1) := by decide +kernel
theorem d_Log_wholeWithin_17 : decode prog_5_method_10_code 17 = .ok (.iaload, 1) := by decide +kernel
theorem d_Log_wholeWithin_18 : decode prog_5_method_10_code 18 = .ok (.iload_n 2, 1) := by decide +kernel
theorem d_Log_wholeWithin_19 : decode prog_5_method_10_code 19 = .ok (.if_icmp .le 7, 3) := by decide +kernel
theorem d_Log_wholeWithin_26 : decode prog_5_method_10_code 26 = .ok (.iload_n 2, 1) := by decide +kernel
theorem d_Log_wholeWithin_27 : decode prog_5_method_10_code 27 = .ok (.aload_n 0, 1) := by decide +kernel
theorem d_Log_wholeWithin_28 : decode prog_5_method_10_code 28 = .ok (.getfield 15, 3) := by decide +kernel
theorem d_Log_wholeWithin_31 : decode prog_5_method_10_code 31 = .ok (.iload_n 3, 1) := by decide +kernel
theorem d_Log_wholeWithin_32 : decode prog_5_method_10_code 32 = .ok (.iaload, 1) := by decide +kernel
theorem d_Log_wholeWithin_33 : decode prog_5_method_10_code 33 = .ok (.isub, 1) := by decide +kernel
theorem d_Log_wholeWithin_34 : decode prog_5_method_10_code 34 = .ok (.istore_n 2, 1) := by decide +kernel
theorem d_Log_wholeWithin_35 : decode prog_5_method_10_code 35 = .ok (.iinc 3 1, 3) := by decide +kernel
theorem d_Log_wholeWithin_38 : decode prog_5_method_10_code 38 = .ok (.goto (-34), 3) := by decide +kernel
theorem d_Log_wholeWithin_22 : decode prog_5_method_10_code 22 = .ok (.iload_n 3, 1) := by decide +kernel
theorem d_Log_wholeWithin_23 : decode prog_5_method_10_code 23 = .ok (.iconst 1, 1) := by decide +kernel
theorem d_Log_wholeWithin_24 : decode prog_5_method_10_code 24 = .ok (.isub, 1) := by decide +kernel
theorem d_Log_wholeWithin_25 : decode prog_5_method_10_code 25 = .ok (.ireturn, 1) := by decide +kernel
abbrev m_Log_loseWaiting : am_M := (⟨"StowTongue$Log", "loseWaiting", "()V"⟩, prog_5_method_9_code, 1, none)
theorem d_Log_loseWaiting_0 : decode prog_5_method_9_code 0 = .ok (.aload_n 0, 1) := by decide +kernel
theorem d_Log_loseWaiting_1 : decode prog_5_method_9_code 1 = .ok (.iconst 0, 1) := by decide +kernel
theorem d_Log_loseWaiting_2 : decode prog_5_method_9_code 2 = .ok (.putfield 27, 3) := by decide +kernel
theorem d_Log_loseWaiting_5 : decode prog_5_method_9_code 5 = .ok (.return_, 1) := by decide +kernel
abbrev m_Store_takeAway : am_M := (⟨"StowTongue$Store", "takeAway", "(I)V"⟩, prog_9_method_6_code, 2, none)
theorem d_Store_takeAway_0 : decode prog_9_method_6_code 0 = .ok (.aload_n 0, 1) := by decide +kernel
theorem d_Store_takeAway_1 : decode prog_9_method_6_code 1 = .ok (.iload_n 1, 1) := by decide +kernel
theorem d_Store_takeAway_2 : decode prog_9_method_6_code 2 = .ok (.invokevirtual 54, 3) := by decide +kernel
theorem d_Store_takeAway_5 : decode prog_9_method_6_code 5 = .ok (.ifCond .eq 10, 3) := by decide +kernel
theorem d_Store_takeAway_15 : decode prog_9_method_6_code 15 = .ok (.return_, 1) := by decide +kernel
theorem d_Store_takeAway_8 : decode prog_9_method_6_code 8 = .ok (.aload_n 0, 1) := by decide +kernel
theorem d_Store_takeAway_9 : decode prog_9_method_6_code 9 = .ok (.getfield 16, 3) := by decide +kernel
theorem d_Store_takeAway_12 : decode prog_9_method_6_code 12 = .ok (.iload_n 1, 1) := by decide +kernel
theorem d_Store_takeAway_13 : decode prog_9_method_6_code 13 = .ok (.iconst (-1), 1) := by decide +kernel
theorem d_Store_takeAway_14 : decode prog_9_method_6_code 14 = .ok (.iastore, 1) := by decide +kernel
theorem d_Store_objects_18 : decode prog_9_method_3_code 18 = .ok (.iinc 1 1, 3) := by decide +kernel
theorem d_Log_waitingBytes_12 : decode prog_5_method_13_code 12 = .ok (.iload_n 1, 1) := by decide +kernel
theorem d_Log_waitingBytes_13 : decode prog_5_method_13_code 13 = .ok (.aload_n 0, 1) := by decide +kernel
theorem d_Log_waitingBytes_14 : decode prog_5_method_13_code 14 = .ok (.getfield 15, 3) := by decide +kernel
theorem d_Log_waitingBytes_17 : decode prog_5_method_13_code 17 = .ok (.iload_n 2, 1) := by decide +kernel
theorem d_Log_waitingBytes_18 : decode prog_5_method_13_code 18 = .ok (.iaload, 1) := by decide +kernel
theorem d_Log_waitingBytes_19 : decode prog_5_method_13_code 19 = .ok (.iadd, 1) := by decide +kernel
theorem d_Log_waitingBytes_20 : decode prog_5_method_13_code 20 = .ok (.istore_n 1, 1) := by decide +kernel
theorem d_Log_waitingBytes_21 : decode prog_5_method_13_code 21 = .ok (.iinc 2 1, 3) := by decide +kernel
theorem d_Log_waitingBytes_24 : decode prog_5_method_13_code 24 = .ok (.goto (-20), 3) := by decide +kernel
abbrev m_Mod_feed : am_M := (⟨"StowTongueModel", "feed", "(IIIII)I"⟩, prog_13_method_36_code, 8, (some FieldType.int))
theorem d_Mod_feed_0 : decode prog_13_method_36_code 0 = .ok (.aload_n 0, 1) := by decide +kernel
theorem d_Mod_feed_1 : decode prog_13_method_36_code 1 = .ok (.getfield 134, 3) := by decide +kernel
theorem d_Mod_feed_4 : decode prog_13_method_36_code 4 = .ok (.bipush 20, 2) := by decide +kernel
theorem d_Mod_feed_6 : decode prog_13_method_36_code 6 = .ok (.iadd, 1) := by decide +kernel
theorem d_Mod_feed_7 : decode prog_13_method_36_code 7 = .ok (.sipush 1500, 3) := by decide +kernel
theorem d_Mod_feed_10 : decode prog_13_method_36_code 10 = .ok (.if_icmp .le 6, 3) := by decide +kernel
theorem d_Mod_feed_16 : decode prog_13_method_36_code 16 = .ok (.iconst 5, 1) := by decide +kernel
theorem d_Mod_feed_17 : decode prog_13_method_36_code 17 = .ok (.newarray .int, 2) := by decide +kernel
theorem d_Mod_feed_19 : decode prog_13_method_36_code 19 = .ok (.dup, 1) := by decide +kernel
theorem d_Mod_feed_20 : decode prog_13_method_36_code 20 = .ok (.iconst 0, 1) := by decide +kernel
theorem d_Mod_feed_21 : decode prog_13_method_36_code 21 = .ok (.iload_n 1, 1) := by decide +kernel
theorem d_Mod_feed_22 : decode prog_13_method_36_code 22 = .ok (.iastore, 1) := by decide +kernel
theorem d_Mod_feed_23 : decode prog_13_method_36_code 23 = .ok (.dup, 1) := by decide +kernel
theorem d_Mod_feed_24 : decode prog_13_method_36_code 24 = .ok (.iconst 1, 1) := by decide +kernel
theorem d_Mod_feed_25 : decode prog_13_method_36_code 25 = .ok (.iload_n 2, 1) := by decide +kernel
theorem d_Mod_feed_26 : decode prog_13_method_36_code 26 = .ok (.iastore, 1) := by decide +kernel
theorem d_Mod_feed_27 : decode prog_13_method_36_code 27 = .ok (.dup, 1) := by decide +kernel
theorem d_Mod_feed_28 : decode prog_13_method_36_code 28 = .ok (.iconst 2, 1) := by decide +kernel
theorem d_Mod_feed_29 : decode prog_13_method_36_code 29 = .ok (.iload_n 3, 1) := by decide +kernel
theorem d_Mod_feed_30 : decode prog_13_method_36_code 30 = .ok (.iastore, 1) := by decide +kernel
theorem d_Mod_feed_31 : decode prog_13_method_36_code 31 = .ok (.dup, 1) := by decide +kernel
theorem d_Mod_feed_32 : decode prog_13_method_36_code 32 = .ok (.iconst 3, 1) := by decide +kernel
theorem d_Mod_feed_33 : decode prog_13_method_36_code 33 = .ok (.iload 4, 2) := by decide +kernel
theorem d_Mod_feed_35 : decode prog_13_method_36_code 35 = .ok (.iastore, 1) := by decide +kernel
theorem d_Mod_feed_36 : decode prog_13_method_36_code 36 = .ok (.dup, 1) := by decide +kernel
theorem d_Mod_feed_37 : decode prog_13_method_36_code 37 = .ok (.iconst 4, 1) := by decide +kernel
theorem d_Mod_feed_38 : decode prog_13_method_36_code 38 = .ok (.iload 5, 2) := by decide +kernel
theorem d_Mod_feed_40 : decode prog_13_method_36_code 40 = .ok (.iastore, 1) := by decide +kernel
theorem d_Mod_feed_41 : decode prog_13_method_36_code 41 = .ok (.astore 6, 2) := by decide +kernel
theorem d_Mod_feed_43 : decode prog_13_method_36_code 43 = .ok (.iconst 0, 1) := by decide +kernel
theorem d_Mod_feed_44 : decode prog_13_method_36_code 44 = .ok (.istore 7, 2) := by decide +kernel
theorem d_Mod_feed_46 : decode prog_13_method_36_code 46 = .ok (.iload 7, 2) := by decide +kernel
theorem d_Mod_feed_48 : decode prog_13_method_36_code 48 = .ok (.bipush 20, 2) := by decide +kernel
theorem d_Mod_feed_50 : decode prog_13_method_36_code 50 = .ok (.if_icmp .ge 40, 3) := by decide +kernel
theorem d_Mod_feed_90 : decode prog_13_method_36_code 90 = .ok (.aload_n 0, 1) := by decide +kernel
theorem d_Mod_feed_91 : decode prog_13_method_36_code 91 = .ok (.dup, 1) := by decide +kernel
theorem d_Mod_feed_92 : decode prog_13_method_36_code 92 = .ok (.getfield 134, 3) := by decide +kernel
theorem d_Mod_feed_95 : decode prog_13_method_36_code 95 = .ok (.bipush 20, 2) := by decide +kernel
theorem d_Mod_feed_97 : decode prog_13_method_36_code 97 = .ok (.iadd, 1) := by decide +kernel
theorem d_Mod_feed_98 : decode prog_13_method_36_code 98 = .ok (.putfield 134, 3) := by decide +kernel
theorem d_Mod_feed_101 : decode prog_13_method_36_code 101 = .ok (.aload_n 0, 1) := by decide +kernel
theorem d_Mod_feed_102 : decode prog_13_method_36_code 102 = .ok (.getfield 134, 3) := by decide +kernel
theorem d_Mod_feed_105 : decode prog_13_method_36_code 105 = .ok (.ireturn, 1) := by decide +kernel
theorem d_Mod_feed_53 : decode prog_13_method_36_code 53 = .ok (.aload_n 0, 1) := by decide +kernel
theorem d_Mod_feed_54 : decode prog_13_method_36_code 54 = .ok (.getfield 22, 3) := by decide +kernel
theorem d_Mod_feed_57 : decode prog_13_method_36_code 57 = .ok (.aload_n 0, 1) := by decide +kernel
theorem d_Mod_feed_58 : decode prog_13_method_36_code 58 = .ok (.getfield 134, 3) := by decide +kernel
theorem d_Mod_feed_61 : decode prog_13_method_36_code 61 = .ok (.iload 7, 2) := by decide +kernel
theorem d_Mod_feed_63 : decode prog_13_method_36_code 63 = .ok (.iadd, 1) := by decide +kernel
theorem d_Mod_feed_64 : decode prog_13_method_36_code 64 = .ok (.aload 6, 2) := by decide +kernel
theorem d_Mod_feed_66 : decode prog_13_method_36_code 66 = .ok (.iload 7, 2) := by decide +kernel
theorem d_Mod_feed_68 : decode prog_13_method_36_code 68 = .ok (.iconst 4, 1) := by decide +kernel
theorem d_Mod_feed_69 : decode prog_13_method_36_code 69 = .ok (.idiv, 1) := by decide +kernel
theorem d_Mod_feed_70 : decode prog_13_method_36_code 70 = .ok (.iaload, 1) := by decide +kernel
theorem d_Mod_feed_71 : decode prog_13_method_36_code 71 = .ok (.bipush 24, 2) := by decide +kernel
theorem d_Mod_feed_73 : decode prog_13_method_36_code 73 = .ok (.bipush 8, 2) := by decide +kernel
theorem d_Mod_feed_75 : decode prog_13_method_36_code 75 = .ok (.iload 7, 2) := by decide +kernel
theorem d_Mod_feed_77 : decode prog_13_method_36_code 77 = .ok (.iconst 4, 1) := by decide +kernel
theorem d_Mod_feed_78 : decode prog_13_method_36_code 78 = .ok (.irem, 1) := by decide +kernel
theorem d_Mod_feed_79 : decode prog_13_method_36_code 79 = .ok (.imul, 1) := by decide +kernel
theorem d_Mod_feed_80 : decode prog_13_method_36_code 80 = .ok (.isub, 1) := by decide +kernel
theorem d_Mod_feed_81 : decode prog_13_method_36_code 81 = .ok (.ishr, 1) := by decide +kernel
theorem d_Mod_feed_82 : decode prog_13_method_36_code 82 = .ok (.i2b, 1) := by decide +kernel
theorem d_Mod_feed_83 : decode prog_13_method_36_code 83 = .ok (.bastore, 1) := by decide +kernel
theorem d_Mod_feed_84 : decode prog_13_method_36_code 84 = .ok (.iinc 7 1, 3) := by decide +kernel
theorem d_Mod_feed_87 : decode prog_13_method_36_code 87 = .ok (.goto (-41), 3) := by decide +kernel
theorem d_Mod_feed_13 : decode prog_13_method_36_code 13 = .ok (.bipush (-3), 2) := by decide +kernel
theorem d_Mod_feed_15 : decode prog_13_method_36_code 15 = .ok (.ireturn, 1) := by decide +kernel
abbrev m_Code_clear : am_M := (⟨"StowTongueModel$Code", "clear", "()V"⟩, prog_14_method_2_code, 1, none)
theorem d_Code_clear_0 : decode prog_14_method_2_code 0 = .ok (.aload_n 0, 1) := by decide +kernel
theorem d_Code_clear_1 : decode prog_14_method_2_code 1 = .ok (.iconst 0, 1) := by decide +kernel
theorem d_Code_clear_2 : decode prog_14_method_2_code 2 = .ok (.putfield 22, 3) := by decide +kernel
theorem w_1525 : (Cond.fieldLink "StowTongueModel$Code" 22 "StowTongueModel$Code" "many" "I" : Cond) ∈ am_tbl := am_w 1525 (by decide +kernel) (by decide +kernel)
theorem f_Code_22 : am_F "StowTongueModel$Code" 22 12 2 := ⟨_, rfl, cl_12, by decide, Or.inl w_1525⟩
theorem d_Code_clear_5 : decode prog_14_method_2_code 5 = .ok (.aload_n 0, 1) := by decide +kernel
theorem d_Code_clear_6 : decode prog_14_method_2_code 6 = .ok (.iconst 0, 1) := by decide +kernel
theorem d_Code_clear_7 : decode prog_14_method_2_code 7 = .ok (.putfield 26, 3) := by decide +kernel
theorem w_1527 : (Cond.fieldLink "StowTongueModel$Code" 26 "StowTongueModel$Code" "values" "I" : Cond) ∈ am_tbl := am_w 1527 (by decide +kernel) (by decide +kernel)
theorem f_Code_26 : am_F "StowTongueModel$Code" 26 12 3 := ⟨_, rfl, cl_12, by decide, Or.inl w_1527⟩
theorem d_Code_clear_10 : decode prog_14_method_2_code 10 = .ok (.aload_n 0, 1) := by decide +kernel
theorem d_Code_clear_11 : decode prog_14_method_2_code 11 = .ok (.iconst 0, 1) := by decide +kernel
theorem d_Code_clear_12 : decode prog_14_method_2_code 12 = .ok (.putfield 29, 3) := by decide +kernel
theorem w_1529 : (Cond.fieldLink "StowTongueModel$Code" 29 "StowTongueModel$Code" "tokens" "I" : Cond) ∈ am_tbl := am_w 1529 (by decide +kernel) (by decide +kernel)
theorem f_Code_29 : am_F "StowTongueModel$Code" 29 12 4 := ⟨_, rfl, cl_12, by decide, Or.inl w_1529⟩
theorem d_Code_clear_15 : decode prog_14_method_2_code 15 = .ok (.aload_n 0, 1) := by decide +kernel
theorem d_Code_clear_16 : decode prog_14_method_2_code 16 = .ok (.iconst 0, 1) := by decide +kernel
theorem d_Code_clear_17 : decode prog_14_method_2_code 17 = .ok (.putfield 32, 3) := by decide +kernel
theorem w_1531 : (Cond.fieldLink "StowTongueModel$Code" 32 "StowTongueModel$Code" "parameters" "I" : Cond) ∈ am_tbl := am_w 1531 (by decide +kernel) (by decide +kernel)
theorem f_Code_32 : am_F "StowTongueModel$Code" 32 12 5 := ⟨_, rfl, cl_12, by decide, Or.inl w_1531⟩
theorem d_Code_clear_20 : decode prog_14_method_2_code 20 = .ok (.aload_n 0, 1) := by decide +kernel
theorem d_Code_clear_21 : decode prog_14_method_2_code 21 = .ok (.iconst 0, 1) := by decide +kernel
theorem d_Code_clear_22 : decode prog_14_method_2_code 22 = .ok (.putfield 35, 3) := by decide +kernel
theorem w_1533 : (Cond.fieldLink "StowTongueModel$Code" 35 "StowTongueModel$Code" "locals" "I" : Cond) ∈ am_tbl := am_w 1533 (by decide +kernel) (by decide +kernel)
theorem f_Code_35 : am_F "StowTongueModel$Code" 35 12 6 := ⟨_, rfl, cl_12, by decide, Or.inl w_1533⟩
theorem d_Code_clear_25 : decode prog_14_method_2_code 25 = .ok (.return_, 1) := by decide +kernel
abbrev m_Mod_isReserved : am_M := (⟨"StowTongueModel", "isReserved", "()Z"⟩, prog_13_method_4_code, 6, (some FieldType.boolean))
theorem d_Mod_isReserved_0 : decode prog_13_method_4_code 0 = .ok (.ldc 1, 2) := by decide +kernel
theorem d_Mod_isReserved_2 : decode prog_13_method_4_code 2 = .ok (.astore_n 1, 1) := by decide +kernel
theorem d_Mod_isReserved_3 : decode prog_13_method_4_code 3 = .ok (.aload_n 0, 1) := by decide +kernel
theorem d_Mod_isReserved_4 : decode prog_13_method_4_code 4 = .ok (.getfield 3, 3) := by decide +kernel
theorem w_1627 : (Cond.fieldLink "StowTongueModel" 3 "StowTongueModel" "next" "I" : Cond) ∈ am_tbl := am_w 1627 (by decide +kernel) (by decide +kernel)
theorem f_Mod_3 : am_F "StowTongueModel" 3 14 5 := ⟨_, rfl, cl_14, by decide, Or.inl w_1627⟩
theorem d_Mod_isReserved_7 : decode prog_13_method_4_code 7 = .ok (.aload_n 0, 1) := by decide +kernel
theorem d_Mod_isReserved_8 : decode prog_13_method_4_code 8 = .ok (.getfield 9, 3) := by decide +kernel
theorem w_1629 : (Cond.fieldLink "StowTongueModel" 9 "StowTongueModel" "from" "I" : Cond) ∈ am_tbl := am_w 1629 (by decide +kernel) (by decide +kernel)
theorem f_Mod_9 : am_F "StowTongueModel" 9 14 7 := ⟨_, rfl, cl_14, by decide, Or.inl w_1629⟩
theorem d_Mod_isReserved_11 : decode prog_13_method_4_code 11 = .ok (.isub, 1) := by decide +kernel
theorem d_Mod_isReserved_12 : decode prog_13_method_4_code 12 = .ok (.istore_n 2, 1) := by decide +kernel
theorem d_Mod_isReserved_13 : decode prog_13_method_4_code 13 = .ok (.iconst 0, 1) := by decide +kernel
theorem d_Mod_isReserved_14 : decode prog_13_method_4_code 14 = .ok (.istore_n 3, 1) := by decide +kernel
theorem d_Mod_isReserved_15 : decode prog_13_method_4_code 15 = .ok (.iload_n 3, 1) := by decide +kernel
theorem d_Mod_isReserved_16 : decode prog_13_method_4_code 16 = .ok (.iload_n 2, 1) := by decide +kernel
theorem d_Mod_isReserved_17 : decode prog_13_method_4_code 17 = .ok (.iadd, 1) := by decide +kernel
theorem d_Mod_isReserved_18 : decode prog_13_method_4_code 18 = .ok (.iconst 1, 1) := by decide +kernel
theorem d_Mod_isReserved_19 : decode prog_13_method_4_code 19 = .ok (.iadd, 1) := by decide +kernel
theorem d_Mod_isReserved_20 : decode prog_13_method_4_code 20 = .ok (.aload_n 1, 1) := by decide +kernel
theorem d_Mod_isReserved_21 : decode prog_13_method_4_code 21 = .ok (.invokevirtual 12, 3) := by decide +kernel
theorem w_1821 : (Cond.methodLink "StowTongueModel" 12 ⟨"java/lang/String", "length", "()I"⟩ : Cond) ∈ am_tbl := am_w 1821 (by decide +kernel) (by decide +kernel)
theorem l_Mod_12 : am_L "StowTongueModel" 12 0 m_Str_length := ⟨Or.inl w_1821, w_147, w_212, ⟨by decide, by decide⟩, by decide +kernel, by decide⟩
theorem d_Mod_isReserved_24 : decode prog_13_method_4_code 24 = .ok (.if_icmp .ge 99, 3) := by decide +kernel
theorem d_Mod_isReserved_123 : decode prog_13_method_4_code 123 = .ok (.iconst 0, 1) := by decide +kernel
theorem d_Mod_isReserved_124 : decode prog_13_method_4_code 124 = .ok (.ireturn, 1) := by decide +kernel
theorem d_Mod_isReserved_27 : decode prog_13_method_4_code 27 = .ok (.aload_n 1, 1) := by decide +kernel
theorem d_Mod_isReserved_28 : decode prog_13_method_4_code 28 = .ok (.iload_n 3, 1) := by decide +kernel
theorem d_Mod_isReserved_29 : decode prog_13_method_4_code 29 = .ok (.invokevirtual 18, 3) := by decide +kernel
theorem w_1822 : (Cond.methodLink "StowTongueModel" 18 ⟨"java/lang/String", "charAt", "(I)C"⟩ : Cond) ∈ am_tbl := am_w 1822 (by decide +kernel) (by decide +kernel)
theorem l_Mod_18 : am_L "StowTongueModel" 18 1 m_Str_charAt := ⟨Or.inl w_1822, w_147, w_222, ⟨by decide, by decide⟩, by decide +kernel, by decide⟩
theorem d_Mod_isReserved_32 : decode prog_13_method_4_code 32 = .ok (.bipush 32, 2) := by decide +kernel
theorem d_Mod_isReserved_34 : decode prog_13_method_4_code 34 = .ok (.if_icmp .ne 21, 3) := by decide +kernel
theorem d_Mod_isReserved_37 : decode prog_13_method_4_code 37 = .ok (.aload_n 1, 1) := by decide +kernel
theorem d_Mod_isReserved_38 : decode prog_13_method_4_code 38 = .ok (.iload_n 3, 1) := by decide +kernel
theorem d_Mod_isReserved_39 : decode prog_13_method_4_code 39 = .ok (.iload_n 2, 1) := by decide +kernel
theorem d_Mod_isReserved_40 : decode prog_13_method_4_code 40 = .ok (.iadd, 1) := by decide +kernel
theorem d_Mod_isReserved_41 : decode prog_13_method_4_code 41 = .ok (.iconst 1, 1) := by decide +kernel
theorem d_Mod_isReserved_42 : decode prog_13_method_4_code 42 = .ok (.iadd, 1) := by decide +kernel
theorem d_Mod_isReserved_43 : decode prog_13_method_4_code 43 = .ok (.invokevirtual 18, 3) := by decide +kernel
theorem d_Mod_isReserved_46 : decode prog_13_method_4_code 46 = .ok (.bipush 32, 2) := by decide +kernel
theorem d_Mod_isReserved_48 : decode prog_13_method_4_code 48 = .ok (.if_icmp .ne 7, 3) := by decide +kernel
theorem d_Mod_isReserved_51 : decode prog_13_method_4_code 51 = .ok (.iconst 1, 1) := by decide +kernel
theorem d_Mod_isReserved_52 : decode prog_13_method_4_code 52 = .ok (.goto 4, 3) := by decide +kernel
theorem d_Mod_isReserved_56 : decode prog_13_method_4_code 56 = .ok (.istore 4, 2) := by decide +kernel
theorem d_Mod_isReserved_58 : decode prog_13_method_4_code 58 = .ok (.iconst 0, 1) := by decide +kernel
theorem d_Mod_isReserved_59 : decode prog_13_method_4_code 59 = .ok (.istore 5, 2) := by decide +kernel
theorem d_Mod_isReserved_61 : decode prog_13_method_4_code 61 = .ok (.iload 5, 2) := by decide +kernel
theorem d_Mod_isReserved_63 : decode prog_13_method_4_code 63 = .ok (.iload_n 2, 1) := by decide +kernel
theorem d_Mod_isReserved_64 : decode prog_13_method_4_code 64 = .ok (.if_icmp .ge 46, 3) := by decide +kernel
theorem d_Mod_isReserved_110 : decode prog_13_method_4_code 110 = .ok (.iload 4, 2) := by decide +kernel
theorem d_Mod_isReserved_112 : decode prog_13_method_4_code 112 = .ok (.ifCond .eq 5, 3) := by decide +kernel
theorem d_Mod_isReserved_117 : decode prog_13_method_4_code 117 = .ok (.iinc 3 1, 3) := by decide +kernel
theorem d_Mod_isReserved_120 : decode prog_13_method_4_code 120 = .ok (.goto (-105), 3) := by decide +kernel
theorem d_Mod_isReserved_115 : decode prog_13_method_4_code 115 = .ok (.iconst 1, 1) := by decide +kernel
theorem d_Mod_isReserved_116 : decode prog_13_method_4_code 116 = .ok (.ireturn, 1) := by decide +kernel
theorem d_Mod_isReserved_67 : decode prog_13_method_4_code 67 = .ok (.iload 4, 2) := by decide +kernel
theorem d_Mod_isReserved_69 : decode prog_13_method_4_code 69 = .ok (.ifCond .eq 41, 3) := by decide +kernel
theorem d_Mod_isReserved_72 : decode prog_13_method_4_code 72 = .ok (.aload_n 1, 1) := by decide +kernel
theorem d_Mod_isReserved_73 : decode prog_13_method_4_code 73 = .ok (.iload_n 3, 1) := by decide +kernel
theorem d_Mod_isReserved_74 : decode prog_13_method_4_code 74 = .ok (.iconst 1, 1) := by decide +kernel
theorem d_Mod_isReserved_75 : decode prog_13_method_4_code 75 = .ok (.iadd, 1) := by decide +kernel
theorem d_Mod_isReserved_76 : decode prog_13_method_4_code 76 = .ok (.iload 5, 2) := by decide +kernel
theorem d_Mod_isReserved_78 : decode prog_13_method_4_code 78 = .ok (.iadd, 1) := by decide +kernel
theorem d_Mod_isReserved_79 : decode prog_13_method_4_code 79 = .ok (.invokevirtual 18, 3) := by decide +kernel
theorem d_Mod_isReserved_82 : decode prog_13_method_4_code 82 = .ok (.aload_n 0, 1) := by decide +kernel
theorem d_Mod_isReserved_83 : decode prog_13_method_4_code 83 = .ok (.getfield 22, 3) := by decide +kernel
theorem d_Mod_isReserved_86 : decode prog_13_method_4_code 86 = .ok (.aload_n 0, 1) := by decide +kernel
theorem d_Mod_isReserved_87 : decode prog_13_method_4_code 87 = .ok (.getfield 9, 3) := by decide +kernel
theorem d_Mod_isReserved_90 : decode prog_13_method_4_code 90 = .ok (.iload 5, 2) := by decide +kernel
theorem d_Mod_isReserved_92 : decode prog_13_method_4_code 92 = .ok (.iadd, 1) := by decide +kernel
theorem d_Mod_isReserved_93 : decode prog_13_method_4_code 93 = .ok (.baload, 1) := by decide +kernel
theorem d_Mod_isReserved_94 : decode prog_13_method_4_code 94 = .ok (.if_icmp .ne 7, 3) := by decide +kernel
theorem d_Mod_isReserved_97 : decode prog_13_method_4_code 97 = .ok (.iconst 1, 1) := by decide +kernel
theorem d_Mod_isReserved_98 : decode prog_13_method_4_code 98 = .ok (.goto 4, 3) := by decide +kernel
theorem d_Mod_isReserved_102 : decode prog_13_method_4_code 102 = .ok (.istore 4, 2) := by decide +kernel
theorem d_Mod_isReserved_104 : decode prog_13_method_4_code 104 = .ok (.iinc 5 1, 3) := by decide +kernel
theorem d_Mod_isReserved_107 : decode prog_13_method_4_code 107 = .ok (.goto (-46), 3) := by decide +kernel
theorem d_Mod_isReserved_101 : decode prog_13_method_4_code 101 = .ok (.iconst 0, 1) := by decide +kernel
theorem d_Mod_isReserved_55 : decode prog_13_method_4_code 55 = .ok (.iconst 0, 1) := by decide +kernel
abbrev m_Mod_is : am_M := (⟨"StowTongueModel", "is", "(Ljava/lang/String;)Z"⟩, prog_13_method_6_code, 3, (some FieldType.boolean))
theorem d_Mod_is_0 : decode prog_13_method_6_code 0 = .ok (.aload_n 0, 1) := by decide +kernel
theorem d_Mod_is_1 : decode prog_13_method_6_code 1 = .ok (.getfield 32, 3) := by decide +kernel
theorem w_1628 : (Cond.fieldLink "StowTongueModel" 32 "StowTongueModel" "kind" "I" : Cond) ∈ am_tbl := am_w 1628 (by decide +kernel) (by decide +kernel)
theorem f_Mod_32 : am_F "StowTongueModel" 32 14 6 := ⟨_, rfl, cl_14, by decide, Or.inl w_1628⟩
theorem d_Mod_is_4 : decode prog_13_method_6_code 4 = .ok (.iconst 2, 1) := by decide +kernel
theorem d_Mod_is_5 : decode prog_13_method_6_code 5 = .ok (.if_icmp .eq 11, 3) := by decide +kernel
theorem d_Mod_is_16 : decode prog_13_method_6_code 16 = .ok (.aload_n 0, 1) := by decide +kernel
theorem d_Mod_is_17 : decode prog_13_method_6_code 17 = .ok (.getfield 74, 3) := by decide +kernel
theorem w_1630 : (Cond.fieldLink "StowTongueModel" 74 "StowTongueModel" "to" "I" : Cond) ∈ am_tbl := am_w 1630 (by decide +kernel) (by decide +kernel)
theorem f_Mod_74 : am_F "StowTongueModel" 74 14 8 := ⟨_, rfl, cl_14, by decide, Or.inl w_1630⟩
theorem d_Mod_is_20 : decode prog_13_method_6_code 20 = .ok (.aload_n 0, 1) := by decide +kernel
theorem d_Mod_is_21 : decode prog_13_method_6_code 21 = .ok (.getfield 9, 3) := by decide +kernel
theorem d_Mod_is_24 : decode prog_13_method_6_code 24 = .ok (.isub, 1) := by decide +kernel
theorem d_Mod_is_25 : decode prog_13_method_6_code 25 = .ok (.aload_n 1, 1) := by decide +kernel
theorem d_Mod_is_26 : decode prog_13_method_6_code 26 = .ok (.invokevirtual 12, 3) := by decide +kernel
theorem d_Mod_is_29 : decode prog_13_method_6_code 29 = .ok (.if_icmp .eq 5, 3) := by decide +kernel
theorem d_Mod_is_34 : decode prog_13_method_6_code 34 = .ok (.iconst 0, 1) := by decide +kernel
theorem d_Mod_is_35 : decode prog_13_method_6_code 35 = .ok (.istore_n 2, 1) := by decide +kernel
theorem d_Mod_is_36 : decode prog_13_method_6_code 36 = .ok (.iload_n 2, 1) := by decide +kernel
theorem d_Mod_is_37 : decode prog_13_method_6_code 37 = .ok (.aload_n 1, 1) := by decide +kernel
theorem d_Mod_is_38 : decode prog_13_method_6_code 38 = .ok (.invokevirtual 12, 3) := by decide +kernel
theorem d_Mod_is_41 : decode prog_13_method_6_code 41 = .ok (.if_icmp .ge 30, 3) := by decide +kernel
theorem d_Mod_is_71 : decode prog_13_method_6_code 71 = .ok (.iconst 1, 1) := by decide +kernel
theorem d_Mod_is_72 : decode prog_13_method_6_code 72 = .ok (.ireturn, 1) := by decide +kernel
theorem d_Mod_is_44 : decode prog_13_method_6_code 44 = .ok (.aload_n 0, 1) := by decide +kernel
theorem d_Mod_is_45 : decode prog_13_method_6_code 45 = .ok (.getfield 22, 3) := by decide +kernel
theorem d_Mod_is_48 : decode prog_13_method_6_code 48 = .ok (.aload_n 0, 1) := by decide +kernel
theorem d_Mod_is_49 : decode prog_13_method_6_code 49 = .ok (.getfield 9, 3) := by decide +kernel
theorem d_Mod_is_52 : decode prog_13_method_6_code 52 = .ok (.iload_n 2, 1) := by decide +kernel
theorem d_Mod_is_53 : decode prog_13_method_6_code 53 = .ok (.iadd, 1) := by decide +kernel
theorem d_Mod_is_54 : decode prog_13_method_6_code 54 = .ok (.baload, 1) := by decide +kernel
theorem d_Mod_is_55 : decode prog_13_method_6_code 55 = .ok (.aload_n 1, 1) := by decide +kernel
theorem d_Mod_is_56 : decode prog_13_method_6_code 56 = .ok (.iload_n 2, 1) := by decide +kernel
theorem d_Mod_is_57 : decode prog_13_method_6_code 57 = .ok (.invokevirtual 18, 3) := by decide +kernel
theorem d_Mod_is_60 : decode prog_13_method_6_code 60 = .ok (.if_icmp .eq 5, 3) := by decide +kernel
theorem d_Mod_is_65 : decode prog_13_method_6_code 65 = .ok (.iinc 2 1, 3) := by decide +kernel
theorem d_Mod_is_68 : decode prog_13_method_6_code 68 = .ok (.goto (-32), 3) := by decide +kernel
theorem d_Mod_is_63 : decode prog_13_method_6_code 63 = .ok (.iconst 0, 1) := by decide +kernel
theorem d_Mod_is_64 : decode prog_13_method_6_code 64 = .ok (.ireturn, 1) := by decide +kernel
theorem d_Mod_is_32 : decode prog_13_method_6_code 32 = .ok (.iconst 0, 1) := by decide +kernel
theorem d_Mod_is_33 : decode prog_13_method_6_code 33 = .ok (.ireturn, 1) := by decide +kernel
theorem d_Mod_is_8 : decode prog_13_method_6_code 8 = .ok (.aload_n 0, 1) := by decide +kernel
theorem d_Mod_is_9 : decode prog_13_method_6_code 9 = .ok (.getfield 32, 3) := by decide +kernel
theorem d_Mod_is_12 : decode prog_13_method_6_code 12 = .ok (.iconst 5, 1) := by decide +kernel
theorem d_Mod_is_13 : decode prog_13_method_6_code 13 = .ok (.if_icmp .ne 19, 3) := by decide +kernel
