set_option maxRecDepth 100000 in
theorem l_Stow_191 : am_L "StowTongue" 191 0 m_Store_functions := ⟨Or.inl w_1470, w_169, w_1473, ⟨by decide, by decide⟩, by decide +kernel, by decide⟩
set_option maxRecDepth 100000 in
theorem w_1471 : (Cond.instanceMethod ⟨"StowTongue$Store", "functions", "()I"⟩ : Cond) ∈ am_tbl := am_w 1471 (by decide +kernel) (by decide +kernel)
set_option maxRecDepth 100000 in
theorem w_1472 : (Cond.selects "StowTongue$Store" ⟨"StowTongue$Store", "functions", "()I"⟩ ⟨"StowTongue$Store", "functions", "()I"⟩ : Cond) ∈ am_tbl := am_w 1472 (by decide +kernel) (by decide +kernel)
set_option maxRecDepth 100000 in
theorem d_Stow_count_67 : decode prog_1_method_14_code 67 = .ok (.invokevirtual 191, 3) := by decide +kernel
set_option maxRecDepth 100000 in
theorem d_Stow_count_70 : decode prog_1_method_14_code 70 = .ok (.ireturn, 1) := by decide +kernel
set_option maxRecDepth 100000 in
theorem d_Mod_count_64 : decode prog_13_method_74_code 64 = .ok (.aload_n 0, 1) := by decide +kernel
set_option maxRecDepth 100000 in
theorem d_Mod_count_65 : decode prog_13_method_74_code 65 = .ok (.getfield 349, 3) := by decide +kernel
set_option maxRecDepth 100000 in
theorem w_1592 : (Cond.fieldLink "StowTongueModel" 396 "StowTongueModel$State" "functions" "I" : Cond) ∈ am_tbl := am_w 1592 (by decide +kernel) (by decide +kernel)
set_option maxRecDepth 100000 in
theorem f_Mod_396 : am_F "StowTongueModel" 396 13 10 := ⟨_, rfl, cl_13, by decide, Or.inl w_1592⟩
set_option maxRecDepth 100000 in
theorem d_Mod_count_68 : decode prog_13_method_74_code 68 = .ok (.getfield 396, 3) := by decide +kernel
set_option maxRecDepth 100000 in
theorem d_Mod_count_71 : decode prog_13_method_74_code 71 = .ok (.ireturn, 1) := by decide +kernel
set_option maxRecDepth 100000 in
theorem d_Stow_count_71 : decode prog_1_method_14_code 71 = .ok (.aload_n 2, 1) := by decide +kernel
set_option maxRecDepth 100000 in
abbrev m_Store_functionTokens : am_M := (⟨"StowTongue$Store", "functionTokens", "()I"⟩, prog_9_method_21_code, 3, (some FieldType.int))
set_option maxRecDepth 100000 in
theorem d_Store_functionTokens_0 : decode prog_9_method_21_code 0 = .ok (.iconst 0, 1) := by decide +kernel
set_option maxRecDepth 100000 in
theorem d_Store_functionTokens_1 : decode prog_9_method_21_code 1 = .ok (.istore_n 1, 1) := by decide +kernel
set_option maxRecDepth 100000 in
theorem d_Store_functionTokens_2 : decode prog_9_method_21_code 2 = .ok (.iconst 0, 1) := by decide +kernel
set_option maxRecDepth 100000 in
theorem d_Store_functionTokens_3 : decode prog_9_method_21_code 3 = .ok (.istore_n 2, 1) := by decide +kernel
set_option maxRecDepth 100000 in
theorem d_Store_functionTokens_4 : decode prog_9_method_21_code 4 = .ok (.iload_n 2, 1) := by decide +kernel
set_option maxRecDepth 100000 in
theorem d_Store_functionTokens_5 : decode prog_9_method_21_code 5 = .ok (.aload_n 0, 1) := by decide +kernel
set_option maxRecDepth 100000 in
theorem d_Store_functionTokens_6 : decode prog_9_method_21_code 6 = .ok (.getfield 51, 3) := by decide +kernel
set_option maxRecDepth 100000 in
theorem d_Store_functionTokens_9 : decode prog_9_method_21_code 9 = .ok (.if_icmp .ge 34, 3) := by decide +kernel
set_option maxRecDepth 100000 in
theorem d_Store_functionTokens_43 : decode prog_9_method_21_code 43 = .ok (.iload_n 1, 1) := by decide +kernel
set_option maxRecDepth 100000 in
theorem d_Store_functionTokens_44 : decode prog_9_method_21_code 44 = .ok (.ireturn, 1) := by decide +kernel
set_option maxRecDepth 100000 in
theorem w_1474 : (Cond.methodLink "StowTongue" 194 ⟨"StowTongue$Store", "functionTokens", "()I"⟩ : Cond) ∈ am_tbl := am_w 1474 (by decide +kernel) (by decide +kernel)
set_option maxRecDepth 100000 in
theorem w_1052 : (Cond.code ⟨"StowTongue$Store", "functionTokens", "()I"⟩ prog_9_method_21_code 3 (some FieldType.int) : Cond) ∈ am_tbl := am_w 1052 rfl rfl
set_option maxRecDepth 100000 in
theorem l_Stow_194 : am_L "StowTongue" 194 0 m_Store_functionTokens := ⟨Or.inl w_1474, w_169, w_1052, ⟨by decide, by decide⟩, by decide +kernel, by decide⟩
set_option maxRecDepth 100000 in
theorem w_1050 : (Cond.instanceMethod ⟨"StowTongue$Store", "functionTokens", "()I"⟩ : Cond) ∈ am_tbl := am_w 1050 (by decide +kernel) (by decide +kernel)
set_option maxRecDepth 100000 in
theorem w_1051 : (Cond.selects "StowTongue$Store" ⟨"StowTongue$Store", "functionTokens", "()I"⟩ ⟨"StowTongue$Store", "functionTokens", "()I"⟩ : Cond) ∈ am_tbl := am_w 1051 (by decide +kernel) (by decide +kernel)
set_option maxRecDepth 100000 in
theorem d_Stow_count_72 : decode prog_1_method_14_code 72 = .ok (.invokevirtual 194, 3) := by decide +kernel
set_option maxRecDepth 100000 in
theorem d_Stow_count_75 : decode prog_1_method_14_code 75 = .ok (.ireturn, 1) := by decide +kernel
set_option maxRecDepth 100000 in
theorem d_Mod_count_72 : decode prog_13_method_74_code 72 = .ok (.aload_n 0, 1) := by decide +kernel
set_option maxRecDepth 100000 in
theorem d_Mod_count_73 : decode prog_13_method_74_code 73 = .ok (.getfield 349, 3) := by decide +kernel
set_option maxRecDepth 100000 in
abbrev m_Mod_tokensOf : am_M := (⟨"StowTongueModel", "tokensOf", "(LStowTongueModel$State;)I"⟩, prog_13_method_41_code, 3, (some FieldType.int))
set_option maxRecDepth 100000 in
theorem d_Mod_tokensOf_0 : decode prog_13_method_41_code 0 = .ok (.iconst 0, 1) := by decide +kernel
set_option maxRecDepth 100000 in
theorem d_Mod_tokensOf_1 : decode prog_13_method_41_code 1 = .ok (.istore_n 1, 1) := by decide +kernel
set_option maxRecDepth 100000 in
theorem d_Mod_tokensOf_2 : decode prog_13_method_41_code 2 = .ok (.iconst 0, 1) := by decide +kernel
set_option maxRecDepth 100000 in
theorem d_Mod_tokensOf_3 : decode prog_13_method_41_code 3 = .ok (.istore_n 2, 1) := by decide +kernel
set_option maxRecDepth 100000 in
theorem d_Mod_tokensOf_4 : decode prog_13_method_41_code 4 = .ok (.iload_n 2, 1) := by decide +kernel
set_option maxRecDepth 100000 in
theorem d_Mod_tokensOf_5 : decode prog_13_method_41_code 5 = .ok (.aload_n 0, 1) := by decide +kernel
set_option maxRecDepth 100000 in
theorem d_Mod_tokensOf_6 : decode prog_13_method_41_code 6 = .ok (.getfield 396, 3) := by decide +kernel
set_option maxRecDepth 100000 in
theorem d_Mod_tokensOf_9 : decode prog_13_method_41_code 9 = .ok (.if_icmp .ge 21, 3) := by decide +kernel
set_option maxRecDepth 100000 in
theorem d_Mod_tokensOf_30 : decode prog_13_method_41_code 30 = .ok (.iload_n 1, 1) := by decide +kernel
set_option maxRecDepth 100000 in
theorem d_Mod_tokensOf_31 : decode prog_13_method_41_code 31 = .ok (.ireturn, 1) := by decide +kernel
set_option maxRecDepth 100000 in
theorem w_2018 : (Cond.methodLink "StowTongueModel" 431 ⟨"StowTongueModel", "tokensOf", "(LStowTongueModel$State;)I"⟩ : Cond) ∈ am_tbl := am_w 2018 (by decide +kernel) (by decide +kernel)
set_option maxRecDepth 100000 in
theorem w_160 : (Cond.initialized "StowTongueModel" : Cond) ∈ am_tbl := am_w 160 (by decide +kernel) (by decide +kernel)
set_option maxRecDepth 100000 in
theorem w_2020 : (Cond.code ⟨"StowTongueModel", "tokensOf", "(LStowTongueModel$State;)I"⟩ prog_13_method_41_code 3 (some FieldType.int) : Cond) ∈ am_tbl := am_w 2020 rfl rfl
set_option maxRecDepth 100000 in
theorem l_Mod_431 : am_L "StowTongueModel" 431 1 m_Mod_tokensOf := ⟨Or.inl w_2018, w_160, w_2020, ⟨by decide, by decide⟩, by decide +kernel, by decide⟩
set_option maxRecDepth 100000 in
theorem w_2019 : (Cond.static ⟨"StowTongueModel", "tokensOf", "(LStowTongueModel$State;)I"⟩ : Cond) ∈ am_tbl := am_w 2019 (by decide +kernel) (by decide +kernel)
set_option maxRecDepth 100000 in
theorem d_Mod_count_76 : decode prog_13_method_74_code 76 = .ok (.invokestatic 431, 3) := by decide +kernel
set_option maxRecDepth 100000 in
theorem d_Mod_count_79 : decode prog_13_method_74_code 79 = .ok (.ireturn, 1) := by decide +kernel
set_option maxRecDepth 100000 in
theorem d_Stow_count_76 : decode prog_1_method_14_code 76 = .ok (.aload_n 0, 1) := by decide +kernel
set_option maxRecDepth 100000 in
theorem d_Stow_count_77 : decode prog_1_method_14_code 77 = .ok (.getfield 37, 3) := by decide +kernel
set_option maxRecDepth 100000 in
abbrev m_Log_safeBytes : am_M := (⟨"StowTongue$Log", "safeBytes", "()I"⟩, prog_5_method_12_code, 1, (some FieldType.int))
set_option maxRecDepth 100000 in
theorem d_Log_safeBytes_0 : decode prog_5_method_12_code 0 = .ok (.aload_n 0, 1) := by decide +kernel
set_option maxRecDepth 100000 in
theorem w_468 : (Cond.fieldLink "StowTongue$Log" 50 "StowTongue$Log" "safeBytes" "I" : Cond) ∈ am_tbl := am_w 468 (by decide +kernel) (by decide +kernel)
set_option maxRecDepth 100000 in
theorem f_Log_50 : am_F "StowTongue$Log" 50 7 3 := ⟨_, rfl, cl_7, by decide, Or.inl w_468⟩
set_option maxRecDepth 100000 in
theorem d_Log_safeBytes_1 : decode prog_5_method_12_code 1 = .ok (.getfield 50, 3) := by decide +kernel
set_option maxRecDepth 100000 in
theorem d_Log_safeBytes_4 : decode prog_5_method_12_code 4 = .ok (.ireturn, 1) := by decide +kernel
set_option maxRecDepth 100000 in
theorem w_1475 : (Cond.methodLink "StowTongue" 197 ⟨"StowTongue$Log", "safeBytes", "()I"⟩ : Cond) ∈ am_tbl := am_w 1475 (by decide +kernel) (by decide +kernel)
set_option maxRecDepth 100000 in
theorem w_1478 : (Cond.code ⟨"StowTongue$Log", "safeBytes", "()I"⟩ prog_5_method_12_code 1 (some FieldType.int) : Cond) ∈ am_tbl := am_w 1478 rfl rfl
set_option maxRecDepth 100000 in
theorem l_Stow_197 : am_L "StowTongue" 197 0 m_Log_safeBytes := ⟨Or.inl w_1475, w_158, w_1478, ⟨by decide, by decide⟩, by decide +kernel, by decide⟩
set_option maxRecDepth 100000 in
theorem w_1476 : (Cond.instanceMethod ⟨"StowTongue$Log", "safeBytes", "()I"⟩ : Cond) ∈ am_tbl := am_w 1476 (by decide +kernel) (by decide +kernel)
set_option maxRecDepth 100000 in
theorem w_1477 : (Cond.selects "StowTongue$Log" ⟨"StowTongue$Log", "safeBytes", "()I"⟩ ⟨"StowTongue$Log", "safeBytes", "()I"⟩ : Cond) ∈ am_tbl := am_w 1477 (by decide +kernel) (by decide +kernel)
set_option maxRecDepth 100000 in
theorem d_Stow_count_80 : decode prog_1_method_14_code 80 = .ok (.invokevirtual 197, 3) := by decide +kernel
set_option maxRecDepth 100000 in
theorem d_Stow_count_83 : decode prog_1_method_14_code 83 = .ok (.aload_n 0, 1) := by decide +kernel
set_option maxRecDepth 100000 in
theorem d_Stow_count_84 : decode prog_1_method_14_code 84 = .ok (.getfield 37, 3) := by decide +kernel
set_option maxRecDepth 100000 in
abbrev m_Log_waitingBytes : am_M := (⟨"StowTongue$Log", "waitingBytes", "()I"⟩, prog_5_method_13_code, 3, (some FieldType.int))
set_option maxRecDepth 100000 in
theorem d_Log_waitingBytes_0 : decode prog_5_method_13_code 0 = .ok (.iconst 0, 1) := by decide +kernel
set_option maxRecDepth 100000 in
theorem d_Log_waitingBytes_1 : decode prog_5_method_13_code 1 = .ok (.istore_n 1, 1) := by decide +kernel
set_option maxRecDepth 100000 in
theorem d_Log_waitingBytes_2 : decode prog_5_method_13_code 2 = .ok (.iconst 1, 1) := by decide +kernel
set_option maxRecDepth 100000 in
theorem d_Log_waitingBytes_3 : decode prog_5_method_13_code 3 = .ok (.istore_n 2, 1) := by decide +kernel
set_option maxRecDepth 100000 in
theorem d_Log_waitingBytes_4 : decode prog_5_method_13_code 4 = .ok (.iload_n 2, 1) := by decide +kernel
set_option maxRecDepth 100000 in
theorem d_Log_waitingBytes_5 : decode prog_5_method_13_code 5 = .ok (.aload_n 0, 1) := by decide +kernel
set_option maxRecDepth 100000 in
theorem d_Log_waitingBytes_6 : decode prog_5_method_13_code 6 = .ok (.getfield 27, 3) := by decide +kernel
set_option maxRecDepth 100000 in
theorem d_Log_waitingBytes_9 : decode prog_5_method_13_code 9 = .ok (.if_icmp .gt 18, 3) := by decide +kernel
set_option maxRecDepth 100000 in
theorem d_Log_waitingBytes_27 : decode prog_5_method_13_code 27 = .ok (.iload_n 1, 1) := by decide +kernel
set_option maxRecDepth 100000 in
theorem d_Log_waitingBytes_28 : decode prog_5_method_13_code 28 = .ok (.ireturn, 1) := by decide +kernel
set_option maxRecDepth 100000 in
theorem w_1479 : (Cond.methodLink "StowTongue" 200 ⟨"StowTongue$Log", "waitingBytes", "()I"⟩ : Cond) ∈ am_tbl := am_w 1479 (by decide +kernel) (by decide +kernel)
set_option maxRecDepth 100000 in
theorem w_1482 : (Cond.code ⟨"StowTongue$Log", "waitingBytes", "()I"⟩ prog_5_method_13_code 3 (some FieldType.int) : Cond) ∈ am_tbl := am_w 1482 rfl rfl
set_option maxRecDepth 100000 in
theorem l_Stow_200 : am_L "StowTongue" 200 0 m_Log_waitingBytes := ⟨Or.inl w_1479, w_158, w_1482, ⟨by decide, by decide⟩, by decide +kernel, by decide⟩
set_option maxRecDepth 100000 in
theorem w_1480 : (Cond.instanceMethod ⟨"StowTongue$Log", "waitingBytes", "()I"⟩ : Cond) ∈ am_tbl := am_w 1480 (by decide +kernel) (by decide +kernel)
set_option maxRecDepth 100000 in
theorem w_1481 : (Cond.selects "StowTongue$Log" ⟨"StowTongue$Log", "waitingBytes", "()I"⟩ ⟨"StowTongue$Log", "waitingBytes", "()I"⟩ : Cond) ∈ am_tbl := am_w 1481 (by decide +kernel) (by decide +kernel)
set_option maxRecDepth 100000 in
theorem d_Stow_count_87 : decode prog_1_method_14_code 87 = .ok (.invokevirtual 200, 3) := by decide +kernel
set_option maxRecDepth 100000 in
theorem d_Stow_count_90 : decode prog_1_method_14_code 90 = .ok (.iadd, 1) := by decide +kernel
set_option maxRecDepth 100000 in
theorem d_Stow_count_91 : decode prog_1_method_14_code 91 = .ok (.ireturn, 1) := by decide +kernel
set_option maxRecDepth 100000 in
theorem d_Mod_count_80 : decode prog_13_method_74_code 80 = .ok (.aload_n 0, 1) := by decide +kernel
set_option maxRecDepth 100000 in
theorem w_1657 : (Cond.fieldLink "StowTongueModel" 480 "StowTongueModel" "logged" "I" : Cond) ∈ am_tbl := am_w 1657 (by decide +kernel) (by decide +kernel)
set_option maxRecDepth 100000 in
theorem f_Mod_480 : am_F "StowTongueModel" 480 14 35 := ⟨_, rfl, cl_14, by decide, Or.inl w_1657⟩
set_option maxRecDepth 100000 in
theorem d_Mod_count_81 : decode prog_13_method_74_code 81 = .ok (.getfield 480, 3) := by decide +kernel
set_option maxRecDepth 100000 in
theorem d_Mod_count_84 : decode prog_13_method_74_code 84 = .ok (.ireturn, 1) := by decide +kernel
set_option maxRecDepth 100000 in
theorem d_Stow_count_92 : decode prog_1_method_14_code 92 = .ok (.aload_n 0, 1) := by decide +kernel
set_option maxRecDepth 100000 in
theorem d_Stow_count_93 : decode prog_1_method_14_code 93 = .ok (.getfield 37, 3) := by decide +kernel
set_option maxRecDepth 100000 in
theorem d_Stow_count_96 : decode prog_1_method_14_code 96 = .ok (.invokevirtual 200, 3) := by decide +kernel
set_option maxRecDepth 100000 in
theorem d_Stow_count_99 : decode prog_1_method_14_code 99 = .ok (.ireturn, 1) := by decide +kernel
set_option maxRecDepth 100000 in
theorem d_Mod_count_85 : decode prog_13_method_74_code 85 = .ok (.iconst 0, 1) := by decide +kernel
set_option maxRecDepth 100000 in
theorem d_Mod_count_86 : decode prog_13_method_74_code 86 = .ok (.istore_n 3, 1) := by decide +kernel
set_option maxRecDepth 100000 in
theorem d_Mod_count_87 : decode prog_13_method_74_code 87 = .ok (.iload_n 3, 1) := by decide +kernel
set_option maxRecDepth 100000 in
theorem d_Mod_count_88 : decode prog_13_method_74_code 88 = .ok (.aload_n 0, 1) := by decide +kernel
set_option maxRecDepth 100000 in
theorem d_Mod_count_89 : decode prog_13_method_74_code 89 = .ok (.getfield 409, 3) := by decide +kernel
set_option maxRecDepth 100000 in
theorem d_Mod_count_92 : decode prog_13_method_74_code 92 = .ok (.if_icmp .ge 21, 3) := by decide +kernel
set_option maxRecDepth 100000 in
theorem d_Mod_count_113 : decode prog_13_method_74_code 113 = .ok (.iload_n 2, 1) := by decide +kernel
set_option maxRecDepth 100000 in
theorem d_Mod_count_114 : decode prog_13_method_74_code 114 = .ok (.ireturn, 1) := by decide +kernel
set_option maxRecDepth 100000 in
theorem d_Stow_count_100 : decode prog_1_method_14_code 100 = .ok (.aload_n 0, 1) := by decide +kernel
set_option maxRecDepth 100000 in
theorem d_Stow_count_101 : decode prog_1_method_14_code 101 = .ok (.getfield 37, 3) := by decide +kernel
set_option maxRecDepth 100000 in
theorem d_Stow_count_104 : decode prog_1_method_14_code 104 = .ok (.invokevirtual 169, 3) := by decide +kernel
set_option maxRecDepth 100000 in
theorem d_Stow_count_107 : decode prog_1_method_14_code 107 = .ok (.ireturn, 1) := by decide +kernel
set_option maxRecDepth 100000 in
theorem d_Mod_count_115 : decode prog_13_method_74_code 115 = .ok (.aload_n 0, 1) := by decide +kernel
set_option maxRecDepth 100000 in
theorem d_Mod_count_116 : decode prog_13_method_74_code 116 = .ok (.getfield 409, 3) := by decide +kernel
set_option maxRecDepth 100000 in
theorem d_Mod_count_119 : decode prog_13_method_74_code 119 = .ok (.ireturn, 1) := by decide +kernel
set_option maxRecDepth 100000 in
theorem d_Stow_count_108 : decode prog_1_method_14_code 108 = .ok (.aload_n 0, 1) := by decide +kernel
set_option maxRecDepth 100000 in
theorem w_504 : (Cond.fieldLink "StowTongue" 86 "StowTongue" "fuelTaken" "I" : Cond) ∈ am_tbl := am_w 504 (by decide +kernel) (by decide +kernel)
set_option maxRecDepth 100000 in
theorem f_Stow_86 : am_F "StowTongue" 86 9 9 := ⟨_, rfl, cl_9, by decide, Or.inl w_504⟩
set_option maxRecDepth 100000 in
theorem d_Stow_count_109 : decode prog_1_method_14_code 109 = .ok (.getfield 86, 3) := by decide +kernel
set_option maxRecDepth 100000 in
theorem d_Stow_count_112 : decode prog_1_method_14_code 112 = .ok (.ireturn, 1) := by decide +kernel
set_option maxRecDepth 100000 in
theorem d_Mod_count_120 : decode prog_13_method_74_code 120 = .ok (.aload_n 0, 1) := by decide +kernel
set_option maxRecDepth 100000 in
theorem w_1666 : (Cond.fieldLink "StowTongueModel" 446 "StowTongueModel" "used" "I" : Cond) ∈ am_tbl := am_w 1666 (by decide +kernel) (by decide +kernel)
set_option maxRecDepth 100000 in
theorem f_Mod_446 : am_F "StowTongueModel" 446 14 44 := ⟨_, rfl, cl_14, by decide, Or.inl w_1666⟩
set_option maxRecDepth 100000 in
theorem d_Mod_count_121 : decode prog_13_method_74_code 121 = .ok (.getfield 446, 3) := by decide +kernel
set_option maxRecDepth 100000 in
theorem d_Mod_count_124 : decode prog_13_method_74_code 124 = .ok (.ireturn, 1) := by decide +kernel
