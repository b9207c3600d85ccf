set_option maxRecDepth 100000 in
theorem d_Stow_root_17 : decode prog_1_method_10_code 17 = .ok (.aload_n 0, 1) := by decide +kernel
set_option maxRecDepth 100000 in
theorem d_Stow_root_18 : decode prog_1_method_10_code 18 = .ok (.getfield 37, 3) := by decide +kernel
set_option maxRecDepth 100000 in
abbrev m_Log_latest : am_M := (⟨"StowTongue$Log", "latest", "()LStowTongue$Store;"⟩, prog_5_method_4_code, 1, (some (FieldType.object "StowTongue$Store")))
set_option maxRecDepth 100000 in
theorem d_Log_latest_0 : decode prog_5_method_4_code 0 = .ok (.aload_n 0, 1) := by decide +kernel
set_option maxRecDepth 100000 in
theorem d_Log_latest_1 : decode prog_5_method_4_code 1 = .ok (.aload_n 0, 1) := by decide +kernel
set_option maxRecDepth 100000 in
theorem d_Log_latest_2 : decode prog_5_method_4_code 2 = .ok (.getfield 27, 3) := by decide +kernel
set_option maxRecDepth 100000 in
abbrev m_Log_storeAt : am_M := (⟨"StowTongue$Log", "storeAt", "(I)LStowTongue$Store;"⟩, prog_5_method_3_code, 3, (some (FieldType.object "StowTongue$Store")))
set_option maxRecDepth 100000 in
theorem d_Log_storeAt_0 : decode prog_5_method_3_code 0 = .ok (.aload_n 0, 1) := by decide +kernel
set_option maxRecDepth 100000 in
theorem d_Log_storeAt_1 : decode prog_5_method_3_code 1 = .ok (.getfield 11, 3) := by decide +kernel
set_option maxRecDepth 100000 in
theorem d_Log_storeAt_4 : decode prog_5_method_3_code 4 = .ok (.iload_n 1, 1) := by decide +kernel
set_option maxRecDepth 100000 in
theorem d_Log_storeAt_5 : decode prog_5_method_3_code 5 = .ok (.aaload, 1) := by decide +kernel
set_option maxRecDepth 100000 in
theorem d_Log_storeAt_6 : decode prog_5_method_3_code 6 = .ok (.astore_n 2, 1) := by decide +kernel
set_option maxRecDepth 100000 in
theorem d_Log_storeAt_7 : decode prog_5_method_3_code 7 = .ok (.aload_n 2, 1) := by decide +kernel
set_option maxRecDepth 100000 in
theorem d_Log_storeAt_8 : decode prog_5_method_3_code 8 = .ok (.ifnonnull 18, 3) := by decide +kernel
set_option maxRecDepth 100000 in
theorem w_961 : (Cond.instantiable "StowTongue$Store" 9 : Cond) ∈ am_tbl := am_w 961 (by decide +kernel) (by decide +kernel)
set_option maxRecDepth 100000 in
theorem n_Log_9 : am_N "StowTongue$Log" 9 10 9 [.null, .null, .null, .null, .null, .null, .int 0, .null, .int 0] := ⟨_, rfl, cl_10, rfl, by decide +kernel, w_463, w_961, w_169⟩
set_option maxRecDepth 100000 in
theorem d_Log_storeAt_11 : decode prog_5_method_3_code 11 = .ok (.new 9, 3) := by decide +kernel
set_option maxRecDepth 100000 in
theorem d_Log_storeAt_14 : decode prog_5_method_3_code 14 = .ok (.dup, 1) := by decide +kernel
set_option maxRecDepth 100000 in
abbrev m_Store_init : am_M := (⟨"StowTongue$Store", "<init>", "()V"⟩, prog_9_method_1_code, 1, none)
set_option maxRecDepth 100000 in
theorem d_Store_init_0 : decode prog_9_method_1_code 0 = .ok (.aload_n 0, 1) := by decide +kernel
set_option maxRecDepth 100000 in
theorem d_Store_init_1 : decode prog_9_method_1_code 1 = .ok (.invokespecial 1, 3) := by decide +kernel
set_option maxRecDepth 100000 in
theorem w_965 : (Cond.methodLink "StowTongue$Store" 1 ⟨"java/lang/Object", "<init>", "()V"⟩ : Cond) ∈ am_tbl := am_w 965 (by decide +kernel) (by decide +kernel)
set_option maxRecDepth 100000 in
theorem d_Store_init_4 : decode prog_9_method_1_code 4 = .ok (.aload_n 0, 1) := by decide +kernel
set_option maxRecDepth 100000 in
theorem d_Store_init_5 : decode prog_9_method_1_code 5 = .ok (.sipush 2000, 3) := by decide +kernel
set_option maxRecDepth 100000 in
theorem d_Store_init_8 : decode prog_9_method_1_code 8 = .ok (.newarray .long, 2) := by decide +kernel
set_option maxRecDepth 100000 in
theorem w_970 : (Cond.fieldLink "StowTongue$Store" 9 "StowTongue$Store" "head" "[J" : Cond) ∈ am_tbl := am_w 970 (by decide +kernel) (by decide +kernel)
set_option maxRecDepth 100000 in
theorem f_Store_9 : am_F "StowTongue$Store" 9 10 0 := ⟨_, rfl, cl_10, by decide, Or.inl w_970⟩
set_option maxRecDepth 100000 in
theorem d_Store_init_10 : decode prog_9_method_1_code 10 = .ok (.putfield 9, 3) := by decide +kernel
set_option maxRecDepth 100000 in
theorem d_Store_init_13 : decode prog_9_method_1_code 13 = .ok (.aload_n 0, 1) := by decide +kernel
set_option maxRecDepth 100000 in
theorem d_Store_init_14 : decode prog_9_method_1_code 14 = .ok (.sipush 2000, 3) := by decide +kernel
set_option maxRecDepth 100000 in
theorem d_Store_init_17 : decode prog_9_method_1_code 17 = .ok (.newarray .long, 2) := by decide +kernel
set_option maxRecDepth 100000 in
theorem w_973 : (Cond.fieldLink "StowTongue$Store" 13 "StowTongue$Store" "tail" "[J" : Cond) ∈ am_tbl := am_w 973 (by decide +kernel) (by decide +kernel)
set_option maxRecDepth 100000 in
theorem f_Store_13 : am_F "StowTongue$Store" 13 10 1 := ⟨_, rfl, cl_10, by decide, Or.inl w_973⟩
set_option maxRecDepth 100000 in
theorem d_Store_init_19 : decode prog_9_method_1_code 19 = .ok (.putfield 13, 3) := by decide +kernel
set_option maxRecDepth 100000 in
theorem d_Store_init_22 : decode prog_9_method_1_code 22 = .ok (.aload_n 0, 1) := by decide +kernel
set_option maxRecDepth 100000 in
theorem d_Store_init_23 : decode prog_9_method_1_code 23 = .ok (.bipush 100, 2) := by decide +kernel
set_option maxRecDepth 100000 in
theorem d_Store_init_25 : decode prog_9_method_1_code 25 = .ok (.newarray .int, 2) := by decide +kernel
set_option maxRecDepth 100000 in
theorem d_Store_init_27 : decode prog_9_method_1_code 27 = .ok (.putfield 16, 3) := by decide +kernel
set_option maxRecDepth 100000 in
theorem d_Store_init_30 : decode prog_9_method_1_code 30 = .ok (.aload_n 0, 1) := by decide +kernel
set_option maxRecDepth 100000 in
theorem d_Store_init_31 : decode prog_9_method_1_code 31 = .ok (.bipush 12, 2) := by decide +kernel
set_option maxRecDepth 100000 in
theorem d_Store_init_33 : decode prog_9_method_1_code 33 = .ok (.newarray .long, 2) := by decide +kernel
set_option maxRecDepth 100000 in
theorem w_977 : (Cond.fieldLink "StowTongue$Store" 20 "StowTongue$Store" "rootName" "[J" : Cond) ∈ am_tbl := am_w 977 (by decide +kernel) (by decide +kernel)
set_option maxRecDepth 100000 in
theorem f_Store_20 : am_F "StowTongue$Store" 20 10 3 := ⟨_, rfl, cl_10, by decide, Or.inl w_977⟩
set_option maxRecDepth 100000 in
theorem d_Store_init_35 : decode prog_9_method_1_code 35 = .ok (.putfield 20, 3) := by decide +kernel
set_option maxRecDepth 100000 in
theorem d_Store_init_38 : decode prog_9_method_1_code 38 = .ok (.aload_n 0, 1) := by decide +kernel
set_option maxRecDepth 100000 in
theorem d_Store_init_39 : decode prog_9_method_1_code 39 = .ok (.bipush 12, 2) := by decide +kernel
set_option maxRecDepth 100000 in
theorem d_Store_init_41 : decode prog_9_method_1_code 41 = .ok (.newarray .long, 2) := by decide +kernel
set_option maxRecDepth 100000 in
theorem w_978 : (Cond.fieldLink "StowTongue$Store" 23 "StowTongue$Store" "rootHead" "[J" : Cond) ∈ am_tbl := am_w 978 (by decide +kernel) (by decide +kernel)
set_option maxRecDepth 100000 in
theorem f_Store_23 : am_F "StowTongue$Store" 23 10 4 := ⟨_, rfl, cl_10, by decide, Or.inl w_978⟩
set_option maxRecDepth 100000 in
theorem d_Store_init_43 : decode prog_9_method_1_code 43 = .ok (.putfield 23, 3) := by decide +kernel
set_option maxRecDepth 100000 in
theorem d_Store_init_46 : decode prog_9_method_1_code 46 = .ok (.aload_n 0, 1) := by decide +kernel
set_option maxRecDepth 100000 in
theorem d_Store_init_47 : decode prog_9_method_1_code 47 = .ok (.bipush 12, 2) := by decide +kernel
set_option maxRecDepth 100000 in
theorem d_Store_init_49 : decode prog_9_method_1_code 49 = .ok (.newarray .long, 2) := by decide +kernel
set_option maxRecDepth 100000 in
theorem w_982 : (Cond.fieldLink "StowTongue$Store" 26 "StowTongue$Store" "rootTail" "[J" : Cond) ∈ am_tbl := am_w 982 (by decide +kernel) (by decide +kernel)
set_option maxRecDepth 100000 in
theorem f_Store_26 : am_F "StowTongue$Store" 26 10 5 := ⟨_, rfl, cl_10, by decide, Or.inl w_982⟩
set_option maxRecDepth 100000 in
theorem d_Store_init_51 : decode prog_9_method_1_code 51 = .ok (.putfield 26, 3) := by decide +kernel
set_option maxRecDepth 100000 in
theorem d_Store_init_54 : decode prog_9_method_1_code 54 = .ok (.aload_n 0, 1) := by decide +kernel
set_option maxRecDepth 100000 in
theorem d_Store_init_55 : decode prog_9_method_1_code 55 = .ok (.bipush 10, 2) := by decide +kernel
set_option maxRecDepth 100000 in
theorem d_Store_init_57 : decode prog_9_method_1_code 57 = .ok (.anewarray 29, 3) := by decide +kernel
set_option maxRecDepth 100000 in
theorem w_966 : (Cond.classLink "StowTongue$Store" 29 "StowTongue$Unit" : Cond) ∈ am_tbl := am_w 966 (by decide +kernel) (by decide +kernel)
set_option maxRecDepth 100000 in
theorem w_987 : (Cond.fieldLink "StowTongue$Store" 31 "StowTongue$Store" "told" "[LStowTongue$Unit;" : Cond) ∈ am_tbl := am_w 987 (by decide +kernel) (by decide +kernel)
set_option maxRecDepth 100000 in
theorem f_Store_31 : am_F "StowTongue$Store" 31 10 7 := ⟨_, rfl, cl_10, by decide, Or.inl w_987⟩
set_option maxRecDepth 100000 in
theorem d_Store_init_60 : decode prog_9_method_1_code 60 = .ok (.putfield 31, 3) := by decide +kernel
set_option maxRecDepth 100000 in
theorem d_Store_init_63 : decode prog_9_method_1_code 63 = .ok (.aload_n 0, 1) := by decide +kernel
set_option maxRecDepth 100000 in
theorem d_Store_init_64 : decode prog_9_method_1_code 64 = .ok (.getfield 16, 3) := by decide +kernel
set_option maxRecDepth 100000 in
theorem d_Store_init_67 : decode prog_9_method_1_code 67 = .ok (.iconst (-1), 1) := by decide +kernel
set_option maxRecDepth 100000 in
theorem w_967 : (Cond.methodLink "StowTongue$Store" 35 ⟨"java/util/Arrays", "fill", "([II)V"⟩ : Cond) ∈ am_tbl := am_w 967 (by decide +kernel) (by decide +kernel)
set_option maxRecDepth 100000 in
theorem w_166 : (Cond.initialized "java/util/Arrays" : Cond) ∈ am_tbl := am_w 166 (by decide +kernel) (by decide +kernel)
set_option maxRecDepth 100000 in
theorem w_969 : (Cond.code ⟨"java/util/Arrays", "fill", "([II)V"⟩ prog_29_method_103_code 4 none : Cond) ∈ am_tbl := am_w 969 rfl rfl
set_option maxRecDepth 100000 in
theorem l_Store_35 : am_L "StowTongue$Store" 35 2 m_Arr_fill_aII := ⟨Or.inl w_967, w_166, w_969, ⟨by decide, by decide⟩, by decide +kernel, by decide⟩
set_option maxRecDepth 100000 in
theorem w_968 : (Cond.static ⟨"java/util/Arrays", "fill", "([II)V"⟩ : Cond) ∈ am_tbl := am_w 968 (by decide +kernel) (by decide +kernel)
set_option maxRecDepth 100000 in
theorem d_Store_init_68 : decode prog_9_method_1_code 68 = .ok (.invokestatic 35, 3) := by decide +kernel
set_option maxRecDepth 100000 in
theorem d_Store_init_71 : decode prog_9_method_1_code 71 = .ok (.return_, 1) := by decide +kernel
set_option maxRecDepth 100000 in
theorem w_962 : (Cond.methodLink "StowTongue$Log" 26 ⟨"StowTongue$Store", "<init>", "()V"⟩ : Cond) ∈ am_tbl := am_w 962 (by decide +kernel) (by decide +kernel)
set_option maxRecDepth 100000 in
theorem w_964 : (Cond.code ⟨"StowTongue$Store", "<init>", "()V"⟩ prog_9_method_1_code 1 none : Cond) ∈ am_tbl := am_w 964 rfl rfl
set_option maxRecDepth 100000 in
theorem l_Log_26 : am_L "StowTongue$Log" 26 0 m_Store_init := ⟨Or.inl w_962, w_169, w_964, ⟨by decide, by decide⟩, by decide +kernel, by decide⟩
set_option maxRecDepth 100000 in
theorem w_963 : (Cond.instanceMethod ⟨"StowTongue$Store", "<init>", "()V"⟩ : Cond) ∈ am_tbl := am_w 963 (by decide +kernel) (by decide +kernel)
set_option maxRecDepth 100000 in
theorem d_Log_storeAt_15 : decode prog_5_method_3_code 15 = .ok (.invokespecial 26, 3) := by decide +kernel
set_option maxRecDepth 100000 in
theorem d_Log_storeAt_18 : decode prog_5_method_3_code 18 = .ok (.astore_n 2, 1) := by decide +kernel
set_option maxRecDepth 100000 in
theorem d_Log_storeAt_19 : decode prog_5_method_3_code 19 = .ok (.aload_n 0, 1) := by decide +kernel
set_option maxRecDepth 100000 in
theorem d_Log_storeAt_20 : decode prog_5_method_3_code 20 = .ok (.getfield 11, 3) := by decide +kernel
set_option maxRecDepth 100000 in
theorem d_Log_storeAt_23 : decode prog_5_method_3_code 23 = .ok (.iload_n 1, 1) := by decide +kernel
set_option maxRecDepth 100000 in
theorem d_Log_storeAt_24 : decode prog_5_method_3_code 24 = .ok (.aload_n 2, 1) := by decide +kernel
set_option maxRecDepth 100000 in
theorem d_Log_storeAt_25 : decode prog_5_method_3_code 25 = .ok (.aastore, 1) := by decide +kernel
set_option maxRecDepth 100000 in
theorem d_Log_storeAt_26 : decode prog_5_method_3_code 26 = .ok (.aload_n 2, 1) := by decide +kernel
set_option maxRecDepth 100000 in
theorem d_Log_storeAt_27 : decode prog_5_method_3_code 27 = .ok (.areturn, 1) := by decide +kernel
set_option maxRecDepth 100000 in
theorem w_957 : (Cond.methodLink "StowTongue$Log" 31 ⟨"StowTongue$Log", "storeAt", "(I)LStowTongue$Store;"⟩ : Cond) ∈ am_tbl := am_w 957 (by decide +kernel) (by decide +kernel)
set_option maxRecDepth 100000 in
theorem w_960 : (Cond.code ⟨"StowTongue$Log", "storeAt", "(I)LStowTongue$Store;"⟩ prog_5_method_3_code 3 (some (FieldType.object "StowTongue$Store")) : Cond) ∈ am_tbl := am_w 960 rfl rfl
set_option maxRecDepth 100000 in
theorem l_Log_31 : am_L "StowTongue$Log" 31 1 m_Log_storeAt := ⟨Or.inl w_957, w_158, w_960, ⟨by decide, by decide⟩, by decide +kernel, by decide⟩
set_option maxRecDepth 100000 in
theorem w_959 : (Cond.instanceMethod ⟨"StowTongue$Log", "storeAt", "(I)LStowTongue$Store;"⟩ : Cond) ∈ am_tbl := am_w 959 (by decide +kernel) (by decide +kernel)
set_option maxRecDepth 100000 in
theorem w_40 : (Cond.selects "StowTongue$Log" ⟨"StowTongue$Log", "storeAt", "(I)LStowTongue$Store;"⟩ ⟨"StowTongue$Log", "storeAt", "(I)LStowTongue$Store;"⟩ : Cond) ∈ am_tbl := am_w 40 (by decide +kernel) (by decide +kernel)
set_option maxRecDepth 100000 in
theorem d_Log_latest_5 : decode prog_5_method_4_code 5 = .ok (.invokevirtual 31, 3) := by decide +kernel
set_option maxRecDepth 100000 in
theorem d_Log_latest_8 : decode prog_5_method_4_code 8 = .ok (.areturn, 1) := by decide +kernel
set_option maxRecDepth 100000 in
theorem w_1337 : (Cond.methodLink "StowTongue" 103 ⟨"StowTongue$Log", "latest", "()LStowTongue$Store;"⟩ : Cond) ∈ am_tbl := am_w 1337 (by decide +kernel) (by decide +kernel)
set_option maxRecDepth 100000 in
theorem w_1011 : (Cond.code ⟨"StowTongue$Log", "latest", "()LStowTongue$Store;"⟩ prog_5_method_4_code 1 (some (FieldType.object "StowTongue$Store")) : Cond) ∈ am_tbl := am_w 1011 rfl rfl
set_option maxRecDepth 100000 in
theorem l_Stow_103 : am_L "StowTongue" 103 0 m_Log_latest := ⟨Or.inl w_1337, w_158, w_1011, ⟨by decide, by decide⟩, by decide +kernel, by decide⟩
set_option maxRecDepth 100000 in
theorem w_1009 : (Cond.instanceMethod ⟨"StowTongue$Log", "latest", "()LStowTongue$Store;"⟩ : Cond) ∈ am_tbl := am_w 1009 (by decide +kernel) (by decide +kernel)
set_option maxRecDepth 100000 in
theorem w_1010 : (Cond.selects "StowTongue$Log" ⟨"StowTongue$Log", "latest", "()LStowTongue$Store;"⟩ ⟨"StowTongue$Log", "latest", "()LStowTongue$Store;"⟩ : Cond) ∈ am_tbl := am_w 1010 (by decide +kernel) (by decide +kernel)
set_option maxRecDepth 100000 in
theorem d_Stow_root_21 : decode prog_1_method_10_code 21 = .ok (.invokevirtual 103, 3) := by decide +kernel
set_option maxRecDepth 100000 in
theorem d_Stow_root_24 : decode prog_1_method_10_code 24 = .ok (.astore_n 3, 1) := by decide +kernel
set_option maxRecDepth 100000 in
theorem d_Stow_root_25 : decode prog_1_method_10_code 25 = .ok (.lload_n 1, 1) := by decide +kernel
set_option maxRecDepth 100000 in
theorem d_Stow_root_26 : decode prog_1_method_10_code 26 = .ok (.lconst 0, 1) := by decide +kernel
set_option maxRecDepth 100000 in
theorem d_Stow_root_27 : decode prog_1_method_10_code 27 = .ok (.lcmp, 1) := by decide +kernel
set_option maxRecDepth 100000 in
theorem d_Stow_root_28 : decode prog_1_method_10_code 28 = .ok (.ifCond .ne 7, 3) := by decide +kernel
set_option maxRecDepth 100000 in
theorem d_Stow_root_31 : decode prog_1_method_10_code 31 = .ok (.iconst (-1), 1) := by decide +kernel
set_option maxRecDepth 100000 in
theorem d_Stow_root_32 : decode prog_1_method_10_code 32 = .ok (.goto 8, 3) := by decide +kernel
set_option maxRecDepth 100000 in
theorem d_Stow_root_40 : decode prog_1_method_10_code 40 = .ok (.istore 4, 2) := by decide +kernel
set_option maxRecDepth 100000 in
theorem d_Stow_root_42 : decode prog_1_method_10_code 42 = .ok (.iload 4, 2) := by decide +kernel
set_option maxRecDepth 100000 in
theorem d_Stow_root_44 : decode prog_1_method_10_code 44 = .ok (.ifCond .ge 7, 3) := by decide +kernel
set_option maxRecDepth 100000 in
theorem d_Stow_root_47 : decode prog_1_method_10_code 47 = .ok (.ldc2_w 136, 3) := by decide +kernel
set_option maxRecDepth 100000 in
theorem d_Stow_root_50 : decode prog_1_method_10_code 50 = .ok (.lreturn, 1) := by decide +kernel
set_option maxRecDepth 100000 in
abbrev m_Mod_root : am_M := (⟨"StowTongueModel", "root", "()J"⟩, prog_13_method_73_code, 6, (some FieldType.long))
set_option maxRecDepth 100000 in
theorem d_Mod_root_0 : decode prog_13_method_73_code 0 = .ok (.aload_n 0, 1) := by decide +kernel
set_option maxRecDepth 100000 in
theorem w_1624 : (Cond.fieldLink "StowTongueModel" 134 "StowTongueModel" "tapeMany" "I" : Cond) ∈ am_tbl := am_w 1624 (by decide +kernel) (by decide +kernel)
set_option maxRecDepth 100000 in
theorem f_Mod_134 : am_F "StowTongueModel" 134 14 2 := ⟨_, rfl, cl_14, by decide, Or.inl w_1624⟩
set_option maxRecDepth 100000 in
theorem d_Mod_root_1 : decode prog_13_method_73_code 1 = .ok (.getfield 134, 3) := by decide +kernel
set_option maxRecDepth 100000 in
theorem d_Mod_root_4 : decode prog_13_method_73_code 4 = .ok (.istore_n 1, 1) := by decide +kernel
set_option maxRecDepth 100000 in
theorem d_Mod_root_5 : decode prog_13_method_73_code 5 = .ok (.aload_n 0, 1) := by decide +kernel
set_option maxRecDepth 100000 in
theorem d_Mod_root_6 : decode prog_13_method_73_code 6 = .ok (.iconst 0, 1) := by decide +kernel
set_option maxRecDepth 100000 in
theorem d_Mod_root_7 : decode prog_13_method_73_code 7 = .ok (.putfield 134, 3) := by decide +kernel
set_option maxRecDepth 100000 in
theorem d_Mod_root_10 : decode prog_13_method_73_code 10 = .ok (.lconst 0, 1) := by decide +kernel
set_option maxRecDepth 100000 in
theorem d_Mod_root_11 : decode prog_13_method_73_code 11 = .ok (.lstore_n 2, 1) := by decide +kernel
set_option maxRecDepth 100000 in
theorem d_Mod_root_12 : decode prog_13_method_73_code 12 = .ok (.iconst 0, 1) := by decide +kernel
set_option maxRecDepth 100000 in
theorem d_Mod_root_13 : decode prog_13_method_73_code 13 = .ok (.istore 4, 2) := by decide +kernel
set_option maxRecDepth 100000 in
theorem d_Mod_root_15 : decode prog_13_method_73_code 15 = .ok (.iload 4, 2) := by decide +kernel
set_option maxRecDepth 100000 in
theorem d_Mod_root_17 : decode prog_13_method_73_code 17 = .ok (.iload_n 1, 1) := by decide +kernel
set_option maxRecDepth 100000 in
theorem d_Mod_root_18 : decode prog_13_method_73_code 18 = .ok (.if_icmp .ge 47, 3) := by decide +kernel
set_option maxRecDepth 100000 in
theorem d_Mod_root_65 : decode prog_13_method_73_code 65 = .ok (.aload_n 0, 1) := by decide +kernel
set_option maxRecDepth 100000 in
theorem d_Mod_root_66 : decode prog_13_method_73_code 66 = .ok (.getfield 349, 3) := by decide +kernel
set_option maxRecDepth 100000 in
theorem d_Mod_root_69 : decode prog_13_method_73_code 69 = .ok (.lload_n 2, 1) := by decide +kernel
set_option maxRecDepth 100000 in
abbrev m_State_findRoot : am_M := (⟨"StowTongueModel$State", "findRoot", "(J)I"⟩, prog_15_method_3_code, 4, (some FieldType.int))
set_option maxRecDepth 100000 in
theorem d_State_findRoot_0 : decode prog_15_method_3_code 0 = .ok (.iconst 0, 1) := by decide +kernel
set_option maxRecDepth 100000 in
theorem d_State_findRoot_1 : decode prog_15_method_3_code 1 = .ok (.istore_n 3, 1) := by decide +kernel
set_option maxRecDepth 100000 in
theorem d_State_findRoot_2 : decode prog_15_method_3_code 2 = .ok (.iload_n 3, 1) := by decide +kernel
set_option maxRecDepth 100000 in
theorem d_State_findRoot_3 : decode prog_15_method_3_code 3 = .ok (.aload_n 0, 1) := by decide +kernel
set_option maxRecDepth 100000 in
theorem d_State_findRoot_4 : decode prog_15_method_3_code 4 = .ok (.getfield 60, 3) := by decide +kernel
set_option maxRecDepth 100000 in
theorem d_State_findRoot_7 : decode prog_15_method_3_code 7 = .ok (.if_icmp .ge 22, 3) := by decide +kernel
set_option maxRecDepth 100000 in
theorem d_State_findRoot_29 : decode prog_15_method_3_code 29 = .ok (.iconst (-1), 1) := by decide +kernel
set_option maxRecDepth 100000 in
theorem d_State_findRoot_30 : decode prog_15_method_3_code 30 = .ok (.ireturn, 1) := by decide +kernel
set_option maxRecDepth 100000 in
theorem w_2042 : (Cond.methodLink "StowTongueModel" 469 ⟨"StowTongueModel$State", "findRoot", "(J)I"⟩ : Cond) ∈ am_tbl := am_w 2042 (by decide +kernel) (by decide +kernel)
set_option maxRecDepth 100000 in
theorem w_2045 : (Cond.code ⟨"StowTongueModel$State", "findRoot", "(J)I"⟩ prog_15_method_3_code 4 (some FieldType.int) : Cond) ∈ am_tbl := am_w 2045 rfl rfl
set_option maxRecDepth 100000 in
theorem l_Mod_469 : am_L "StowTongueModel" 469 1 m_State_findRoot := ⟨Or.inl w_2042, w_163, w_2045, ⟨by decide, by decide⟩, by decide +kernel, by decide⟩
set_option maxRecDepth 100000 in
theorem w_2043 : (Cond.instanceMethod ⟨"StowTongueModel$State", "findRoot", "(J)I"⟩ : Cond) ∈ am_tbl := am_w 2043 (by decide +kernel) (by decide +kernel)
set_option maxRecDepth 100000 in
theorem w_2044 : (Cond.selects "StowTongueModel$State" ⟨"StowTongueModel$State", "findRoot", "(J)I"⟩ ⟨"StowTongueModel$State", "findRoot", "(J)I"⟩ : Cond) ∈ am_tbl := am_w 2044 (by decide +kernel) (by decide +kernel)
set_option maxRecDepth 100000 in
theorem d_Mod_root_70 : decode prog_13_method_73_code 70 = .ok (.invokevirtual 469, 3) := by decide +kernel
set_option maxRecDepth 100000 in
theorem d_Mod_root_73 : decode prog_13_method_73_code 73 = .ok (.istore 4, 2) := by decide +kernel
set_option maxRecDepth 100000 in
theorem d_Mod_root_75 : decode prog_13_method_73_code 75 = .ok (.iload 4, 2) := by decide +kernel
set_option maxRecDepth 100000 in
theorem d_Mod_root_77 : decode prog_13_method_73_code 77 = .ok (.ifCond .ge 7, 3) := by decide +kernel
set_option maxRecDepth 100000 in
theorem d_Mod_root_80 : decode prog_13_method_73_code 80 = .ok (.ldc2_w 50, 3) := by decide +kernel
set_option maxRecDepth 100000 in
theorem d_Mod_root_83 : decode prog_13_method_73_code 83 = .ok (.lreturn, 1) := by decide +kernel
set_option maxRecDepth 100000 in
abbrev m_Stow_sweep : am_M := (⟨"StowTongue", "sweep", "()I"⟩, prog_1_method_13_code, 3, (some FieldType.int))
set_option maxRecDepth 100000 in
theorem d_Stow_sweep_0 : decode prog_1_method_13_code 0 = .ok (.aload_n 0, 1) := by decide +kernel
set_option maxRecDepth 100000 in
theorem d_Stow_sweep_1 : decode prog_1_method_13_code 1 = .ok (.getfield 37, 3) := by decide +kernel
set_option maxRecDepth 100000 in
abbrev m_Log_workCopy : am_M := (⟨"StowTongue$Log", "workCopy", "()LStowTongue$Store;"⟩, prog_5_method_5_code, 2, (some (FieldType.object "StowTongue$Store")))
set_option maxRecDepth 100000 in
theorem d_Log_workCopy_0 : decode prog_5_method_5_code 0 = .ok (.aload_n 0, 1) := by decide +kernel
set_option maxRecDepth 100000 in
theorem d_Log_workCopy_1 : decode prog_5_method_5_code 1 = .ok (.aload_n 0, 1) := by decide +kernel
set_option maxRecDepth 100000 in
theorem d_Log_workCopy_2 : decode prog_5_method_5_code 2 = .ok (.getfield 27, 3) := by decide +kernel
set_option maxRecDepth 100000 in
theorem d_Log_workCopy_5 : decode prog_5_method_5_code 5 = .ok (.iconst 1, 1) := by decide +kernel
set_option maxRecDepth 100000 in
theorem d_Log_workCopy_6 : decode prog_5_method_5_code 6 = .ok (.iadd, 1) := by decide +kernel
set_option maxRecDepth 100000 in
theorem d_Log_workCopy_7 : decode prog_5_method_5_code 7 = .ok (.invokevirtual 31, 3) := by decide +kernel
set_option maxRecDepth 100000 in
theorem d_Log_workCopy_10 : decode prog_5_method_5_code 10 = .ok (.astore_n 1, 1) := by decide +kernel
set_option maxRecDepth 100000 in
theorem d_Log_workCopy_11 : decode prog_5_method_5_code 11 = .ok (.aload_n 1, 1) := by decide +kernel
set_option maxRecDepth 100000 in
theorem d_Log_workCopy_12 : decode prog_5_method_5_code 12 = .ok (.aload_n 0, 1) := by decide +kernel
set_option maxRecDepth 100000 in
theorem w_1008 : (Cond.methodLink "StowTongue$Log" 35 ⟨"StowTongue$Log", "latest", "()LStowTongue$Store;"⟩ : Cond) ∈ am_tbl := am_w 1008 (by decide +kernel) (by decide +kernel)
set_option maxRecDepth 100000 in
theorem l_Log_35 : am_L "StowTongue$Log" 35 0 m_Log_latest := ⟨Or.inl w_1008, w_158, w_1011, ⟨by decide, by decide⟩, by decide +kernel, by decide⟩
set_option maxRecDepth 100000 in
theorem d_Log_workCopy_13 : decode prog_5_method_5_code 13 = .ok (.invokevirtual 35, 3) := by decide +kernel
set_option maxRecDepth 100000 in
abbrev m_Store_copyFrom : am_M := (⟨"StowTongue$Store", "copyFrom", "(LStowTongue$Store;)V"⟩, prog_9_method_2_code, 3, none)
set_option maxRecDepth 100000 in
theorem d_Store_copyFrom_0 : decode prog_9_method_2_code 0 = .ok (.aload_n 1, 1) := by decide +kernel
set_option maxRecDepth 100000 in
theorem d_Store_copyFrom_1 : decode prog_9_method_2_code 1 = .ok (.getfield 9, 3) := by decide +kernel
set_option maxRecDepth 100000 in
theorem d_Store_copyFrom_4 : decode prog_9_method_2_code 4 = .ok (.iconst 0, 1) := by decide +kernel
set_option maxRecDepth 100000 in
theorem d_Store_copyFrom_5 : decode prog_9_method_2_code 5 = .ok (.aload_n 0, 1) := by decide +kernel
set_option maxRecDepth 100000 in
theorem d_Store_copyFrom_6 : decode prog_9_method_2_code 6 = .ok (.getfield 9, 3) := by decide +kernel
set_option maxRecDepth 100000 in
theorem d_Store_copyFrom_9 : decode prog_9_method_2_code 9 = .ok (.iconst 0, 1) := by decide +kernel
set_option maxRecDepth 100000 in
theorem d_Store_copyFrom_10 : decode prog_9_method_2_code 10 = .ok (.aload_n 0, 1) := by decide +kernel
set_option maxRecDepth 100000 in
theorem d_Store_copyFrom_11 : decode prog_9_method_2_code 11 = .ok (.getfield 9, 3) := by decide +kernel
set_option maxRecDepth 100000 in
theorem d_Store_copyFrom_14 : decode prog_9_method_2_code 14 = .ok (.arraylength, 1) := by decide +kernel
set_option maxRecDepth 100000 in
theorem w_1016 : (Cond.methodLink "StowTongue$Store" 41 ⟨"java/lang/System", "arraycopy", "(Ljava/lang/Object;ILjava/lang/Object;II)V"⟩ : Cond) ∈ am_tbl := am_w 1016 (by decide +kernel) (by decide +kernel)
set_option maxRecDepth 100000 in
theorem d_Store_copyFrom_15 : decode prog_9_method_2_code 15 = .ok (.invokestatic 41, 3) := by decide +kernel
set_option maxRecDepth 100000 in
theorem d_Store_copyFrom_18 : decode prog_9_method_2_code 18 = .ok (.aload_n 1, 1) := by decide +kernel
set_option maxRecDepth 100000 in
theorem d_Store_copyFrom_19 : decode prog_9_method_2_code 19 = .ok (.getfield 13, 3) := by decide +kernel
set_option maxRecDepth 100000 in
theorem d_Store_copyFrom_22 : decode prog_9_method_2_code 22 = .ok (.iconst 0, 1) := by decide +kernel
set_option maxRecDepth 100000 in
theorem d_Store_copyFrom_23 : decode prog_9_method_2_code 23 = .ok (.aload_n 0, 1) := by decide +kernel
set_option maxRecDepth 100000 in
theorem d_Store_copyFrom_24 : decode prog_9_method_2_code 24 = .ok (.getfield 13, 3) := by decide +kernel
set_option maxRecDepth 100000 in
theorem d_Store_copyFrom_27 : decode prog_9_method_2_code 27 = .ok (.iconst 0, 1) := by decide +kernel
set_option maxRecDepth 100000 in
theorem d_Store_copyFrom_28 : decode prog_9_method_2_code 28 = .ok (.aload_n 0, 1) := by decide +kernel
set_option maxRecDepth 100000 in
theorem d_Store_copyFrom_29 : decode prog_9_method_2_code 29 = .ok (.getfield 13, 3) := by decide +kernel
set_option maxRecDepth 100000 in
theorem d_Store_copyFrom_32 : decode prog_9_method_2_code 32 = .ok (.arraylength, 1) := by decide +kernel
set_option maxRecDepth 100000 in
theorem d_Store_copyFrom_33 : decode prog_9_method_2_code 33 = .ok (.invokestatic 41, 3) := by decide +kernel
set_option maxRecDepth 100000 in
theorem d_Store_copyFrom_36 : decode prog_9_method_2_code 36 = .ok (.aload_n 1, 1) := by decide +kernel
set_option maxRecDepth 100000 in
theorem d_Store_copyFrom_37 : decode prog_9_method_2_code 37 = .ok (.getfield 16, 3) := by decide +kernel
set_option maxRecDepth 100000 in
theorem d_Store_copyFrom_40 : decode prog_9_method_2_code 40 = .ok (.iconst 0, 1) := by decide +kernel
set_option maxRecDepth 100000 in
theorem d_Store_copyFrom_41 : decode prog_9_method_2_code 41 = .ok (.aload_n 0, 1) := by decide +kernel
set_option maxRecDepth 100000 in
theorem d_Store_copyFrom_42 : decode prog_9_method_2_code 42 = .ok (.getfield 16, 3) := by decide +kernel
set_option maxRecDepth 100000 in
theorem d_Store_copyFrom_45 : decode prog_9_method_2_code 45 = .ok (.iconst 0, 1) := by decide +kernel
set_option maxRecDepth 100000 in
theorem d_Store_copyFrom_46 : decode prog_9_method_2_code 46 = .ok (.aload_n 0, 1) := by decide +kernel
set_option maxRecDepth 100000 in
theorem d_Store_copyFrom_47 : decode prog_9_method_2_code 47 = .ok (.getfield 16, 3) := by decide +kernel
set_option maxRecDepth 100000 in
theorem d_Store_copyFrom_50 : decode prog_9_method_2_code 50 = .ok (.arraylength, 1) := by decide +kernel
set_option maxRecDepth 100000 in
theorem d_Store_copyFrom_51 : decode prog_9_method_2_code 51 = .ok (.invokestatic 41, 3) := by decide +kernel
set_option maxRecDepth 100000 in
theorem d_Store_copyFrom_54 : decode prog_9_method_2_code 54 = .ok (.aload_n 1, 1) := by decide +kernel
set_option maxRecDepth 100000 in
theorem d_Store_copyFrom_55 : decode prog_9_method_2_code 55 = .ok (.getfield 20, 3) := by decide +kernel
set_option maxRecDepth 100000 in
theorem d_Store_copyFrom_58 : decode prog_9_method_2_code 58 = .ok (.iconst 0, 1) := by decide +kernel
set_option maxRecDepth 100000 in
theorem d_Store_copyFrom_59 : decode prog_9_method_2_code 59 = .ok (.aload_n 0, 1) := by decide +kernel
set_option maxRecDepth 100000 in
theorem d_Store_copyFrom_60 : decode prog_9_method_2_code 60 = .ok (.getfield 20, 3) := by decide +kernel
set_option maxRecDepth 100000 in
theorem d_Store_copyFrom_63 : decode prog_9_method_2_code 63 = .ok (.iconst 0, 1) := by decide +kernel
set_option maxRecDepth 100000 in
theorem d_Store_copyFrom_64 : decode prog_9_method_2_code 64 = .ok (.aload_n 0, 1) := by decide +kernel
set_option maxRecDepth 100000 in
theorem d_Store_copyFrom_65 : decode prog_9_method_2_code 65 = .ok (.getfield 20, 3) := by decide +kernel
set_option maxRecDepth 100000 in
theorem d_Store_copyFrom_68 : decode prog_9_method_2_code 68 = .ok (.arraylength, 1) := by decide +kernel
set_option maxRecDepth 100000 in
theorem d_Store_copyFrom_69 : decode prog_9_method_2_code 69 = .ok (.invokestatic 41, 3) := by decide +kernel
set_option maxRecDepth 100000 in
theorem d_Store_copyFrom_72 : decode prog_9_method_2_code 72 = .ok (.aload_n 1, 1) := by decide +kernel
set_option maxRecDepth 100000 in
theorem d_Store_copyFrom_73 : decode prog_9_method_2_code 73 = .ok (.getfield 23, 3) := by decide +kernel
set_option maxRecDepth 100000 in
theorem d_Store_copyFrom_76 : decode prog_9_method_2_code 76 = .ok (.iconst 0, 1) := by decide +kernel
set_option maxRecDepth 100000 in
theorem d_Store_copyFrom_77 : decode prog_9_method_2_code 77 = .ok (.aload_n 0, 1) := by decide +kernel
set_option maxRecDepth 100000 in
theorem d_Store_copyFrom_78 : decode prog_9_method_2_code 78 = .ok (.getfield 23, 3) := by decide +kernel
set_option maxRecDepth 100000 in
theorem d_Store_copyFrom_81 : decode prog_9_method_2_code 81 = .ok (.iconst 0, 1) := by decide +kernel
set_option maxRecDepth 100000 in
theorem d_Store_copyFrom_82 : decode prog_9_method_2_code 82 = .ok (.aload_n 0, 1) := by decide +kernel
set_option maxRecDepth 100000 in
theorem d_Store_copyFrom_83 : decode prog_9_method_2_code 83 = .ok (.getfield 23, 3) := by decide +kernel
set_option maxRecDepth 100000 in
theorem d_Store_copyFrom_86 : decode prog_9_method_2_code 86 = .ok (.arraylength, 1) := by decide +kernel
set_option maxRecDepth 100000 in
theorem d_Store_copyFrom_87 : decode prog_9_method_2_code 87 = .ok (.invokestatic 41, 3) := by decide +kernel
set_option maxRecDepth 100000 in
theorem d_Store_copyFrom_90 : decode prog_9_method_2_code 90 = .ok (.aload_n 1, 1) := by decide +kernel
set_option maxRecDepth 100000 in
theorem d_Store_copyFrom_91 : decode prog_9_method_2_code 91 = .ok (.getfield 26, 3) := by decide +kernel
set_option maxRecDepth 100000 in
theorem d_Store_copyFrom_94 : decode prog_9_method_2_code 94 = .ok (.iconst 0, 1) := by decide +kernel
set_option maxRecDepth 100000 in
theorem d_Store_copyFrom_95 : decode prog_9_method_2_code 95 = .ok (.aload_n 0, 1) := by decide +kernel
set_option maxRecDepth 100000 in
theorem d_Store_copyFrom_96 : decode prog_9_method_2_code 96 = .ok (.getfield 26, 3) := by decide +kernel
set_option maxRecDepth 100000 in
theorem d_Store_copyFrom_99 : decode prog_9_method_2_code 99 = .ok (.iconst 0, 1) := by decide +kernel
set_option maxRecDepth 100000 in
theorem d_Store_copyFrom_100 : decode prog_9_method_2_code 100 = .ok (.aload_n 0, 1) := by decide +kernel
set_option maxRecDepth 100000 in
theorem d_Store_copyFrom_101 : decode prog_9_method_2_code 101 = .ok (.getfield 26, 3) := by decide +kernel
set_option maxRecDepth 100000 in
theorem d_Store_copyFrom_104 : decode prog_9_method_2_code 104 = .ok (.arraylength, 1) := by decide +kernel
set_option maxRecDepth 100000 in
theorem d_Store_copyFrom_105 : decode prog_9_method_2_code 105 = .ok (.invokestatic 41, 3) := by decide +kernel
set_option maxRecDepth 100000 in
theorem d_Store_copyFrom_108 : decode prog_9_method_2_code 108 = .ok (.iconst 0, 1) := by decide +kernel
set_option maxRecDepth 100000 in
theorem d_Store_copyFrom_109 : decode prog_9_method_2_code 109 = .ok (.istore_n 2, 1) := by decide +kernel
set_option maxRecDepth 100000 in
theorem d_Store_copyFrom_110 : decode prog_9_method_2_code 110 = .ok (.iload_n 2, 1) := by decide +kernel
set_option maxRecDepth 100000 in
theorem d_Store_copyFrom_111 : decode prog_9_method_2_code 111 = .ok (.bipush 10, 2) := by decide +kernel
set_option maxRecDepth 100000 in
theorem d_Store_copyFrom_113 : decode prog_9_method_2_code 113 = .ok (.if_icmp .ge 21, 3) := by decide +kernel
set_option maxRecDepth 100000 in
theorem d_Store_copyFrom_116 : decode prog_9_method_2_code 116 = .ok (.aload_n 0, 1) := by decide +kernel
set_option maxRecDepth 100000 in
theorem d_Store_copyFrom_117 : decode prog_9_method_2_code 117 = .ok (.getfield 31, 3) := by decide +kernel
set_option maxRecDepth 100000 in
theorem d_Store_copyFrom_120 : decode prog_9_method_2_code 120 = .ok (.iload_n 2, 1) := by decide +kernel
set_option maxRecDepth 100000 in
theorem d_Store_copyFrom_121 : decode prog_9_method_2_code 121 = .ok (.aload_n 1, 1) := by decide +kernel
set_option maxRecDepth 100000 in
theorem d_Store_copyFrom_122 : decode prog_9_method_2_code 122 = .ok (.getfield 31, 3) := by decide +kernel
set_option maxRecDepth 100000 in
theorem d_Store_copyFrom_125 : decode prog_9_method_2_code 125 = .ok (.iload_n 2, 1) := by decide +kernel
set_option maxRecDepth 100000 in
theorem d_Store_copyFrom_126 : decode prog_9_method_2_code 126 = .ok (.aaload, 1) := by decide +kernel
set_option maxRecDepth 100000 in
theorem d_Store_copyFrom_127 : decode prog_9_method_2_code 127 = .ok (.aastore, 1) := by decide +kernel
set_option maxRecDepth 100000 in
theorem d_Store_copyFrom_128 : decode prog_9_method_2_code 128 = .ok (.iinc 2 1, 3) := by decide +kernel
set_option maxRecDepth 100000 in
theorem d_Store_copyFrom_131 : decode prog_9_method_2_code 131 = .ok (.goto (-21), 3) := by decide +kernel
set_option maxRecDepth 100000 in
theorem d_Store_copyFrom_134 : decode prog_9_method_2_code 134 = .ok (.aload_n 0, 1) := by decide +kernel
set_option maxRecDepth 100000 in
theorem d_Store_copyFrom_135 : decode prog_9_method_2_code 135 = .ok (.aload_n 1, 1) := by decide +kernel
set_option maxRecDepth 100000 in
theorem w_986 : (Cond.fieldLink "StowTongue$Store" 47 "StowTongue$Store" "roots" "I" : Cond) ∈ am_tbl := am_w 986 (by decide +kernel) (by decide +kernel)
set_option maxRecDepth 100000 in
theorem f_Store_47 : am_F "StowTongue$Store" 47 10 6 := ⟨_, rfl, cl_10, by decide, Or.inl w_986⟩
set_option maxRecDepth 100000 in
theorem d_Store_copyFrom_136 : decode prog_9_method_2_code 136 = .ok (.getfield 47, 3) := by decide +kernel
set_option maxRecDepth 100000 in
theorem d_Store_copyFrom_139 : decode prog_9_method_2_code 139 = .ok (.putfield 47, 3) := by decide +kernel
set_option maxRecDepth 100000 in
theorem d_Store_copyFrom_142 : decode prog_9_method_2_code 142 = .ok (.aload_n 0, 1) := by decide +kernel
set_option maxRecDepth 100000 in
theorem d_Store_copyFrom_143 : decode prog_9_method_2_code 143 = .ok (.aload_n 1, 1) := by decide +kernel
set_option maxRecDepth 100000 in
theorem w_988 : (Cond.fieldLink "StowTongue$Store" 51 "StowTongue$Store" "functions" "I" : Cond) ∈ am_tbl := am_w 988 (by decide +kernel) (by decide +kernel)
set_option maxRecDepth 100000 in
theorem f_Store_51 : am_F "StowTongue$Store" 51 10 8 := ⟨_, rfl, cl_10, by decide, Or.inl w_988⟩
set_option maxRecDepth 100000 in
theorem d_Store_copyFrom_144 : decode prog_9_method_2_code 144 = .ok (.getfield 51, 3) := by decide +kernel
set_option maxRecDepth 100000 in
theorem d_Store_copyFrom_147 : decode prog_9_method_2_code 147 = .ok (.putfield 51, 3) := by decide +kernel
set_option maxRecDepth 100000 in
theorem d_Store_copyFrom_150 : decode prog_9_method_2_code 150 = .ok (.return_, 1) := by decide +kernel
set_option maxRecDepth 100000 in
theorem w_1012 : (Cond.methodLink "StowTongue$Log" 39 ⟨"StowTongue$Store", "copyFrom", "(LStowTongue$Store;)V"⟩ : Cond) ∈ am_tbl := am_w 1012 (by decide +kernel) (by decide +kernel)
set_option maxRecDepth 100000 in
theorem w_1015 : (Cond.code ⟨"StowTongue$Store", "copyFrom", "(LStowTongue$Store;)V"⟩ prog_9_method_2_code 3 none : Cond) ∈ am_tbl := am_w 1015 rfl rfl
set_option maxRecDepth 100000 in
theorem l_Log_39 : am_L "StowTongue$Log" 39 1 m_Store_copyFrom := ⟨Or.inl w_1012, w_169, w_1015, ⟨by decide, by decide⟩, by decide +kernel, by decide⟩
set_option maxRecDepth 100000 in
theorem w_1013 : (Cond.instanceMethod ⟨"StowTongue$Store", "copyFrom", "(LStowTongue$Store;)V"⟩ : Cond) ∈ am_tbl := am_w 1013 (by decide +kernel) (by decide +kernel)
set_option maxRecDepth 100000 in
theorem w_1014 : (Cond.selects "StowTongue$Store" ⟨"StowTongue$Store", "copyFrom", "(LStowTongue$Store;)V"⟩ ⟨"StowTongue$Store", "copyFrom", "(LStowTongue$Store;)V"⟩ : Cond) ∈ am_tbl := am_w 1014 (by decide +kernel) (by decide +kernel)
set_option maxRecDepth 100000 in
theorem d_Log_workCopy_16 : decode prog_5_method_5_code 16 = .ok (.invokevirtual 39, 3) := by decide +kernel
set_option maxRecDepth 100000 in
theorem d_Log_workCopy_19 : decode prog_5_method_5_code 19 = .ok (.aload_n 1, 1) := by decide +kernel
set_option maxRecDepth 100000 in
theorem d_Log_workCopy_20 : decode prog_5_method_5_code 20 = .ok (.areturn, 1) := by decide +kernel
set_option maxRecDepth 100000 in
theorem w_953 : (Cond.methodLink "StowTongue" 66 ⟨"StowTongue$Log", "workCopy", "()LStowTongue$Store;"⟩ : Cond) ∈ am_tbl := am_w 953 (by decide +kernel) (by decide +kernel)
set_option maxRecDepth 100000 in
theorem w_956 : (Cond.code ⟨"StowTongue$Log", "workCopy", "()LStowTongue$Store;"⟩ prog_5_method_5_code 2 (some (FieldType.object "StowTongue$Store")) : Cond) ∈ am_tbl := am_w 956 rfl rfl
set_option maxRecDepth 100000 in
theorem l_Stow_66 : am_L "StowTongue" 66 0 m_Log_workCopy := ⟨Or.inl w_953, w_158, w_956, ⟨by decide, by decide⟩, by decide +kernel, by decide⟩
set_option maxRecDepth 100000 in
theorem w_954 : (Cond.instanceMethod ⟨"StowTongue$Log", "workCopy", "()LStowTongue$Store;"⟩ : Cond) ∈ am_tbl := am_w 954 (by decide +kernel) (by decide +kernel)
set_option maxRecDepth 100000 in
theorem w_955 : (Cond.selects "StowTongue$Log" ⟨"StowTongue$Log", "workCopy", "()LStowTongue$Store;"⟩ ⟨"StowTongue$Log", "workCopy", "()LStowTongue$Store;"⟩ : Cond) ∈ am_tbl := am_w 955 (by decide +kernel) (by decide +kernel)
set_option maxRecDepth 100000 in
theorem d_Stow_sweep_4 : decode prog_1_method_13_code 4 = .ok (.invokevirtual 66, 3) := by decide +kernel
set_option maxRecDepth 100000 in
theorem d_Stow_sweep_7 : decode prog_1_method_13_code 7 = .ok (.astore_n 1, 1) := by decide +kernel
set_option maxRecDepth 100000 in
theorem d_Stow_sweep_8 : decode prog_1_method_13_code 8 = .ok (.aload_n 0, 1) := by decide +kernel
set_option maxRecDepth 100000 in
theorem d_Stow_sweep_9 : decode prog_1_method_13_code 9 = .ok (.getfield 44, 3) := by decide +kernel
set_option maxRecDepth 100000 in
theorem d_Stow_sweep_12 : decode prog_1_method_13_code 12 = .ok (.aload_n 1, 1) := by decide +kernel
set_option maxRecDepth 100000 in
theorem d_Sweep_clean_0 : decode prog_10_method_2_code 0 = .ok (.iconst 0, 1) := by decide +kernel
set_option maxRecDepth 100000 in
theorem d_Sweep_clean_1 : decode prog_10_method_2_code 1 = .ok (.istore_n 2, 1) := by decide +kernel
set_option maxRecDepth 100000 in
theorem d_Sweep_clean_21 : decode prog_10_method_2_code 21 = .ok (.aload_n 0, 1) := by decide +kernel
set_option maxRecDepth 100000 in
theorem d_Sweep_clean_22 : decode prog_10_method_2_code 22 = .ok (.iconst 0, 1) := by decide +kernel
set_option maxRecDepth 100000 in
theorem w_486 : (Cond.fieldLink "StowTongue$Sweeper" 19 "StowTongue$Sweeper" "queued" "I" : Cond) ∈ am_tbl := am_w 486 (by decide +kernel) (by decide +kernel)
set_option maxRecDepth 100000 in
theorem f_Sweep_19 : am_F "StowTongue$Sweeper" 19 8 2 := ⟨_, rfl, cl_8, by decide, Or.inl w_486⟩
set_option maxRecDepth 100000 in
theorem d_Sweep_clean_23 : decode prog_10_method_2_code 23 = .ok (.putfield 19, 3) := by decide +kernel
set_option maxRecDepth 100000 in
theorem d_Sweep_clean_26 : decode prog_10_method_2_code 26 = .ok (.iconst 0, 1) := by decide +kernel
set_option maxRecDepth 100000 in
theorem d_Sweep_clean_27 : decode prog_10_method_2_code 27 = .ok (.istore_n 2, 1) := by decide +kernel
set_option maxRecDepth 100000 in
theorem d_Sweep_clean_28 : decode prog_10_method_2_code 28 = .ok (.iload_n 2, 1) := by decide +kernel
set_option maxRecDepth 100000 in
theorem d_Sweep_clean_29 : decode prog_10_method_2_code 29 = .ok (.aload_n 1, 1) := by decide +kernel
set_option maxRecDepth 100000 in
abbrev m_Store_roots : am_M := (⟨"StowTongue$Store", "roots", "()I"⟩, prog_9_method_14_code, 1, (some FieldType.int))
set_option maxRecDepth 100000 in
theorem d_Store_roots_0 : decode prog_9_method_14_code 0 = .ok (.aload_n 0, 1) := by decide +kernel
set_option maxRecDepth 100000 in
theorem d_Store_roots_1 : decode prog_9_method_14_code 1 = .ok (.getfield 47, 3) := by decide +kernel
set_option maxRecDepth 100000 in
theorem d_Store_roots_4 : decode prog_9_method_14_code 4 = .ok (.ireturn, 1) := by decide +kernel
set_option maxRecDepth 100000 in
theorem w_1434 : (Cond.methodLink "StowTongue$Sweeper" 23 ⟨"StowTongue$Store", "roots", "()I"⟩ : Cond) ∈ am_tbl := am_w 1434 (by decide +kernel) (by decide +kernel)
set_option maxRecDepth 100000 in
theorem w_1437 : (Cond.code ⟨"StowTongue$Store", "roots", "()I"⟩ prog_9_method_14_code 1 (some FieldType.int) : Cond) ∈ am_tbl := am_w 1437 rfl rfl
set_option maxRecDepth 100000 in
theorem l_Sweep_23 : am_L "StowTongue$Sweeper" 23 0 m_Store_roots := ⟨Or.inl w_1434, w_169, w_1437, ⟨by decide, by decide⟩, by decide +kernel, by decide⟩
set_option maxRecDepth 100000 in
theorem w_1435 : (Cond.instanceMethod ⟨"StowTongue$Store", "roots", "()I"⟩ : Cond) ∈ am_tbl := am_w 1435 (by decide +kernel) (by decide +kernel)
set_option maxRecDepth 100000 in
theorem w_1436 : (Cond.selects "StowTongue$Store" ⟨"StowTongue$Store", "roots", "()I"⟩ ⟨"StowTongue$Store", "roots", "()I"⟩ : Cond) ∈ am_tbl := am_w 1436 (by decide +kernel) (by decide +kernel)
set_option maxRecDepth 100000 in
theorem d_Sweep_clean_30 : decode prog_10_method_2_code 30 = .ok (.invokevirtual 23, 3) := by decide +kernel
set_option maxRecDepth 100000 in
theorem d_Sweep_clean_33 : decode prog_10_method_2_code 33 = .ok (.if_icmp .ge 25, 3) := by decide +kernel
set_option maxRecDepth 100000 in
theorem d_Sweep_clean_58 : decode prog_10_method_2_code 58 = .ok (.iconst 0, 1) := by decide +kernel
set_option maxRecDepth 100000 in
theorem d_Sweep_clean_59 : decode prog_10_method_2_code 59 = .ok (.istore_n 2, 1) := by decide +kernel
set_option maxRecDepth 100000 in
theorem d_Sweep_clean_60 : decode prog_10_method_2_code 60 = .ok (.iload_n 2, 1) := by decide +kernel
set_option maxRecDepth 100000 in
theorem d_Sweep_clean_61 : decode prog_10_method_2_code 61 = .ok (.aload_n 0, 1) := by decide +kernel
set_option maxRecDepth 100000 in
theorem d_Sweep_clean_62 : decode prog_10_method_2_code 62 = .ok (.getfield 19, 3) := by decide +kernel
set_option maxRecDepth 100000 in
theorem d_Sweep_clean_65 : decode prog_10_method_2_code 65 = .ok (.if_icmp .ge 26, 3) := by decide +kernel
set_option maxRecDepth 100000 in
theorem d_Sweep_clean_91 : decode prog_10_method_2_code 91 = .ok (.aload_n 0, 1) := by decide +kernel
set_option maxRecDepth 100000 in
theorem d_Sweep_clean_92 : decode prog_10_method_2_code 92 = .ok (.aload_n 1, 1) := by decide +kernel
set_option maxRecDepth 100000 in
theorem w_1452 : (Cond.methodLink "StowTongue$Sweeper" 42 ⟨"StowTongue$Sweeper", "takeUnreached", "(LStowTongue$Store;)I"⟩ : Cond) ∈ am_tbl := am_w 1452 (by decide +kernel) (by decide +kernel)
set_option maxRecDepth 100000 in
theorem w_1455 : (Cond.code ⟨"StowTongue$Sweeper", "takeUnreached", "(LStowTongue$Store;)I"⟩ prog_10_method_5_code 4 (some FieldType.int) : Cond) ∈ am_tbl := am_w 1455 rfl rfl
set_option maxRecDepth 100000 in
theorem l_Sweep_42 : am_L "StowTongue$Sweeper" 42 1 m_Sweep_takeUnreached := ⟨Or.inl w_1452, w_159, w_1455, ⟨by decide, by decide⟩, by decide +kernel, by decide⟩
set_option maxRecDepth 100000 in
theorem w_1454 : (Cond.instanceMethod ⟨"StowTongue$Sweeper", "takeUnreached", "(LStowTongue$Store;)I"⟩ : Cond) ∈ am_tbl := am_w 1454 (by decide +kernel) (by decide +kernel)
set_option maxRecDepth 100000 in
theorem w_82 : (Cond.selects "StowTongue$Sweeper" ⟨"StowTongue$Sweeper", "takeUnreached", "(LStowTongue$Store;)I"⟩ ⟨"StowTongue$Sweeper", "takeUnreached", "(LStowTongue$Store;)I"⟩ : Cond) ∈ am_tbl := am_w 82 (by decide +kernel) (by decide +kernel)
set_option maxRecDepth 100000 in
theorem d_Sweep_clean_93 : decode prog_10_method_2_code 93 = .ok (.invokevirtual 42, 3) := by decide +kernel
set_option maxRecDepth 100000 in
theorem d_Sweep_clean_96 : decode prog_10_method_2_code 96 = .ok (.ireturn, 1) := by decide +kernel
set_option maxRecDepth 100000 in
theorem w_1430 : (Cond.methodLink "StowTongue" 181 ⟨"StowTongue$Sweeper", "clean", "(LStowTongue$Store;)I"⟩ : Cond) ∈ am_tbl := am_w 1430 (by decide +kernel) (by decide +kernel)
set_option maxRecDepth 100000 in
theorem w_1433 : (Cond.code ⟨"StowTongue$Sweeper", "clean", "(LStowTongue$Store;)I"⟩ prog_10_method_2_code 3 (some FieldType.int) : Cond) ∈ am_tbl := am_w 1433 rfl rfl
set_option maxRecDepth 100000 in
theorem l_Stow_181 : am_L "StowTongue" 181 1 m_Sweep_clean := ⟨Or.inl w_1430, w_159, w_1433, ⟨by decide, by decide⟩, by decide +kernel, by decide⟩
set_option maxRecDepth 100000 in
theorem w_1431 : (Cond.instanceMethod ⟨"StowTongue$Sweeper", "clean", "(LStowTongue$Store;)I"⟩ : Cond) ∈ am_tbl := am_w 1431 (by decide +kernel) (by decide +kernel)
set_option maxRecDepth 100000 in
theorem w_1432 : (Cond.selects "StowTongue$Sweeper" ⟨"StowTongue$Sweeper", "clean", "(LStowTongue$Store;)I"⟩ ⟨"StowTongue$Sweeper", "clean", "(LStowTongue$Store;)I"⟩ : Cond) ∈ am_tbl := am_w 1432 (by decide +kernel) (by decide +kernel)
set_option maxRecDepth 100000 in
theorem d_Stow_sweep_13 : decode prog_1_method_13_code 13 = .ok (.invokevirtual 181, 3) := by decide +kernel
set_option maxRecDepth 100000 in
theorem d_Stow_sweep_16 : decode prog_1_method_13_code 16 = .ok (.istore_n 2, 1) := by decide +kernel
set_option maxRecDepth 100000 in
theorem d_Stow_sweep_17 : decode prog_1_method_13_code 17 = .ok (.iload_n 2, 1) := by decide +kernel
set_option maxRecDepth 100000 in
theorem d_Stow_sweep_18 : decode prog_1_method_13_code 18 = .ok (.ifCond .le 12, 3) := by decide +kernel
set_option maxRecDepth 100000 in
theorem d_Stow_sweep_30 : decode prog_1_method_13_code 30 = .ok (.iload_n 2, 1) := by decide +kernel
set_option maxRecDepth 100000 in
theorem d_Stow_sweep_31 : decode prog_1_method_13_code 31 = .ok (.ireturn, 1) := by decide +kernel
set_option maxRecDepth 100000 in
theorem d_Mod_sweep_0 : decode prog_13_method_70_code 0 = .ok (.aload_n 0, 1) := by decide +kernel
set_option maxRecDepth 100000 in
theorem d_Mod_sweep_1 : decode prog_13_method_70_code 1 = .ok (.getfield 389, 3) := by decide +kernel
set_option maxRecDepth 100000 in
theorem d_Mod_sweep_4 : decode prog_13_method_70_code 4 = .ok (.iconst 0, 1) := by decide +kernel
set_option maxRecDepth 100000 in
theorem w_2154 : (Cond.methodLink "StowTongueModel" 607 ⟨"java/util/Arrays", "fill", "([ZZ)V"⟩ : Cond) ∈ am_tbl := am_w 2154 (by decide +kernel) (by decide +kernel)
set_option maxRecDepth 100000 in
theorem w_2156 : (Cond.code ⟨"java/util/Arrays", "fill", "([ZZ)V"⟩ prog_29_method_111_code 4 none : Cond) ∈ am_tbl := am_w 2156 rfl rfl
set_option maxRecDepth 100000 in
theorem l_Mod_607 : am_L "StowTongueModel" 607 2 m_Arr_fill_aZZ := ⟨Or.inl w_2154, w_166, w_2156, ⟨by decide, by decide⟩, by decide +kernel, by decide⟩
set_option maxRecDepth 100000 in
theorem w_2155 : (Cond.static ⟨"java/util/Arrays", "fill", "([ZZ)V"⟩ : Cond) ∈ am_tbl := am_w 2155 (by decide +kernel) (by decide +kernel)
set_option maxRecDepth 100000 in
theorem d_Mod_sweep_5 : decode prog_13_method_70_code 5 = .ok (.invokestatic 607, 3) := by decide +kernel
set_option maxRecDepth 100000 in
theorem d_Mod_sweep_8 : decode prog_13_method_70_code 8 = .ok (.aload_n 0, 1) := by decide +kernel
set_option maxRecDepth 100000 in
theorem d_Mod_sweep_9 : decode prog_13_method_70_code 9 = .ok (.iconst 0, 1) := by decide +kernel
set_option maxRecDepth 100000 in
theorem w_1674 : (Cond.fieldLink "StowTongueModel" 604 "StowTongueModel" "walked" "I" : Cond) ∈ am_tbl := am_w 1674 (by decide +kernel) (by decide +kernel)
set_option maxRecDepth 100000 in
theorem f_Mod_604 : am_F "StowTongueModel" 604 14 52 := ⟨_, rfl, cl_14, by decide, Or.inl w_1674⟩
set_option maxRecDepth 100000 in
theorem d_Mod_sweep_10 : decode prog_13_method_70_code 10 = .ok (.putfield 604, 3) := by decide +kernel
set_option maxRecDepth 100000 in
theorem d_Mod_sweep_13 : decode prog_13_method_70_code 13 = .ok (.iconst 0, 1) := by decide +kernel
set_option maxRecDepth 100000 in
theorem d_Mod_sweep_14 : decode prog_13_method_70_code 14 = .ok (.istore_n 1, 1) := by decide +kernel
set_option maxRecDepth 100000 in
theorem d_Mod_sweep_15 : decode prog_13_method_70_code 15 = .ok (.iload_n 1, 1) := by decide +kernel
set_option maxRecDepth 100000 in
theorem d_Mod_sweep_16 : decode prog_13_method_70_code 16 = .ok (.aload_n 0, 1) := by decide +kernel
set_option maxRecDepth 100000 in
theorem d_Mod_sweep_17 : decode prog_13_method_70_code 17 = .ok (.getfield 349, 3) := by decide +kernel
set_option maxRecDepth 100000 in
theorem w_1590 : (Cond.fieldLink "StowTongueModel" 463 "StowTongueModel$State" "roots" "I" : Cond) ∈ am_tbl := am_w 1590 (by decide +kernel) (by decide +kernel)
set_option maxRecDepth 100000 in
theorem f_Mod_463 : am_F "StowTongueModel" 463 13 9 := ⟨_, rfl, cl_13, by decide, Or.inl w_1590⟩
set_option maxRecDepth 100000 in
theorem d_Mod_sweep_20 : decode prog_13_method_70_code 20 = .ok (.getfield 463, 3) := by decide +kernel
set_option maxRecDepth 100000 in
theorem d_Mod_sweep_23 : decode prog_13_method_70_code 23 = .ok (.if_icmp .ge 37, 3) := by decide +kernel
set_option maxRecDepth 100000 in
theorem d_Mod_sweep_60 : decode prog_13_method_70_code 60 = .ok (.iconst 0, 1) := by decide +kernel
set_option maxRecDepth 100000 in
theorem d_Mod_sweep_61 : decode prog_13_method_70_code 61 = .ok (.istore_n 1, 1) := by decide +kernel
set_option maxRecDepth 100000 in
theorem d_Mod_sweep_62 : decode prog_13_method_70_code 62 = .ok (.iload_n 1, 1) := by decide +kernel
set_option maxRecDepth 100000 in
theorem d_Mod_sweep_63 : decode prog_13_method_70_code 63 = .ok (.aload_n 0, 1) := by decide +kernel
set_option maxRecDepth 100000 in
theorem d_Mod_sweep_64 : decode prog_13_method_70_code 64 = .ok (.getfield 604, 3) := by decide +kernel
set_option maxRecDepth 100000 in
theorem d_Mod_sweep_67 : decode prog_13_method_70_code 67 = .ok (.if_icmp .ge 75, 3) := by decide +kernel
set_option maxRecDepth 100000 in
theorem d_Mod_sweep_142 : decode prog_13_method_70_code 142 = .ok (.iconst 0, 1) := by decide +kernel
set_option maxRecDepth 100000 in
theorem d_Mod_sweep_143 : decode prog_13_method_70_code 143 = .ok (.istore_n 1, 1) := by decide +kernel
set_option maxRecDepth 100000 in
theorem d_Mod_sweep_144 : decode prog_13_method_70_code 144 = .ok (.iconst 0, 1) := by decide +kernel
set_option maxRecDepth 100000 in
theorem d_Mod_sweep_145 : decode prog_13_method_70_code 145 = .ok (.istore_n 2, 1) := by decide +kernel
set_option maxRecDepth 100000 in
theorem d_Mod_sweep_218 : decode prog_13_method_70_code 218 = .ok (.iload_n 1, 1) := by decide +kernel
set_option maxRecDepth 100000 in
theorem d_Mod_sweep_219 : decode prog_13_method_70_code 219 = .ok (.ifCond .le 9, 3) := by decide +kernel
set_option maxRecDepth 100000 in
theorem d_Mod_sweep_228 : decode prog_13_method_70_code 228 = .ok (.iload_n 1, 1) := by decide +kernel
set_option maxRecDepth 100000 in
theorem d_Mod_sweep_229 : decode prog_13_method_70_code 229 = .ok (.ireturn, 1) := by decide +kernel
set_option maxRecDepth 100000 in
abbrev m_Stow_count : am_M := (⟨"StowTongue", "count", "(I)I"⟩, prog_1_method_14_code, 3, (some FieldType.int))
set_option maxRecDepth 100000 in
theorem d_Stow_count_0 : decode prog_1_method_14_code 0 = .ok (.aload_n 0, 1) := by decide +kernel
set_option maxRecDepth 100000 in
theorem d_Stow_count_1 : decode prog_1_method_14_code 1 = .ok (.getfield 37, 3) := by decide +kernel
set_option maxRecDepth 100000 in
theorem d_Stow_count_4 : decode prog_1_method_14_code 4 = .ok (.invokevirtual 103, 3) := by decide +kernel
set_option maxRecDepth 100000 in
theorem d_Stow_count_7 : decode prog_1_method_14_code 7 = .ok (.astore_n 2, 1) := by decide +kernel
set_option maxRecDepth 100000 in
theorem d_Stow_count_8 : decode prog_1_method_14_code 8 = .ok (.iload_n 1, 1) := by decide +kernel
set_option maxRecDepth 100000 in
theorem d_Stow_count_9 : decode prog_1_method_14_code 9 = .ok (.tableswitch 104 0 7 #[47, 52, 57, 62, 67, 83, 91, 99], 47) := by decide +kernel
set_option maxRecDepth 100000 in
theorem d_Stow_count_56 : decode prog_1_method_14_code 56 = .ok (.aload_n 2, 1) := by decide +kernel
set_option maxRecDepth 100000 in
theorem w_1465 : (Cond.methodLink "StowTongue" 185 ⟨"StowTongue$Store", "objects", "()I"⟩ : Cond) ∈ am_tbl := am_w 1465 (by decide +kernel) (by decide +kernel)
set_option maxRecDepth 100000 in
theorem w_1468 : (Cond.code ⟨"StowTongue$Store", "objects", "()I"⟩ prog_9_method_3_code 3 (some FieldType.int) : Cond) ∈ am_tbl := am_w 1468 rfl rfl
set_option maxRecDepth 100000 in
theorem l_Stow_185 : am_L "StowTongue" 185 0 m_Store_objects := ⟨Or.inl w_1465, w_169, w_1468, ⟨by decide, by decide⟩, by decide +kernel, by decide⟩
set_option maxRecDepth 100000 in
theorem w_1466 : (Cond.instanceMethod ⟨"StowTongue$Store", "objects", "()I"⟩ : Cond) ∈ am_tbl := am_w 1466 (by decide +kernel) (by decide +kernel)
set_option maxRecDepth 100000 in
theorem w_1467 : (Cond.selects "StowTongue$Store" ⟨"StowTongue$Store", "objects", "()I"⟩ ⟨"StowTongue$Store", "objects", "()I"⟩ : Cond) ∈ am_tbl := am_w 1467 (by decide +kernel) (by decide +kernel)
set_option maxRecDepth 100000 in
theorem d_Stow_count_57 : decode prog_1_method_14_code 57 = .ok (.invokevirtual 185, 3) := by decide +kernel
set_option maxRecDepth 100000 in
theorem d_Stow_count_60 : decode prog_1_method_14_code 60 = .ok (.ireturn, 1) := by decide +kernel
set_option maxRecDepth 100000 in
abbrev m_Mod_count : am_M := (⟨"StowTongueModel", "count", "(I)I"⟩, prog_13_method_74_code, 4, (some FieldType.int))
set_option maxRecDepth 100000 in
theorem d_Mod_count_0 : decode prog_13_method_74_code 0 = .ok (.iconst 0, 1) := by decide +kernel
set_option maxRecDepth 100000 in
theorem d_Mod_count_1 : decode prog_13_method_74_code 1 = .ok (.istore_n 2, 1) := by decide +kernel
set_option maxRecDepth 100000 in
theorem d_Mod_count_2 : decode prog_13_method_74_code 2 = .ok (.iload_n 1, 1) := by decide +kernel
set_option maxRecDepth 100000 in
theorem d_Mod_count_3 : decode prog_13_method_74_code 3 = .ok (.tableswitch 122 0 7 #[45, 53, 61, 69, 77, 82, 112, 117], 45) := by decide +kernel
set_option maxRecDepth 100000 in
theorem d_Mod_count_48 : decode prog_13_method_74_code 48 = .ok (.aload_n 0, 1) := by decide +kernel
set_option maxRecDepth 100000 in
theorem d_Mod_count_49 : decode prog_13_method_74_code 49 = .ok (.getfield 349, 3) := by decide +kernel
set_option maxRecDepth 100000 in
theorem w_1588 : (Cond.fieldLink "StowTongueModel" 578 "StowTongueModel$State" "objects" "I" : Cond) ∈ am_tbl := am_w 1588 (by decide +kernel) (by decide +kernel)
set_option maxRecDepth 100000 in
theorem f_Mod_578 : am_F "StowTongueModel" 578 13 8 := ⟨_, rfl, cl_13, by decide, Or.inl w_1588⟩
set_option maxRecDepth 100000 in
theorem d_Mod_count_52 : decode prog_13_method_74_code 52 = .ok (.getfield 578, 3) := by decide +kernel
set_option maxRecDepth 100000 in
theorem d_Mod_count_55 : decode prog_13_method_74_code 55 = .ok (.ireturn, 1) := by decide +kernel
set_option maxRecDepth 100000 in
theorem d_Stow_count_61 : decode prog_1_method_14_code 61 = .ok (.aload_n 2, 1) := by decide +kernel
set_option maxRecDepth 100000 in
theorem w_1469 : (Cond.methodLink "StowTongue" 188 ⟨"StowTongue$Store", "roots", "()I"⟩ : Cond) ∈ am_tbl := am_w 1469 (by decide +kernel) (by decide +kernel)
set_option maxRecDepth 100000 in
theorem l_Stow_188 : am_L "StowTongue" 188 0 m_Store_roots := ⟨Or.inl w_1469, w_169, w_1437, ⟨by decide, by decide⟩, by decide +kernel, by decide⟩
set_option maxRecDepth 100000 in
theorem d_Stow_count_62 : decode prog_1_method_14_code 62 = .ok (.invokevirtual 188, 3) := by decide +kernel
set_option maxRecDepth 100000 in
theorem d_Stow_count_65 : decode prog_1_method_14_code 65 = .ok (.ireturn, 1) := by decide +kernel
set_option maxRecDepth 100000 in
theorem d_Mod_count_56 : decode prog_13_method_74_code 56 = .ok (.aload_n 0, 1) := by decide +kernel
set_option maxRecDepth 100000 in
theorem d_Mod_count_57 : decode prog_13_method_74_code 57 = .ok (.getfield 349, 3) := by decide +kernel
set_option maxRecDepth 100000 in
theorem d_Mod_count_60 : decode prog_13_method_74_code 60 = .ok (.getfield 463, 3) := by decide +kernel
set_option maxRecDepth 100000 in
theorem d_Mod_count_63 : decode prog_13_method_74_code 63 = .ok (.ireturn, 1) := by decide +kernel
set_option maxRecDepth 100000 in
theorem d_Stow_count_66 : decode prog_1_method_14_code 66 = .ok (.aload_n 2, 1) := by decide +kernel
set_option maxRecDepth 100000 in
abbrev m_Store_functions : am_M := (⟨"StowTongue$Store", "functions", "()I"⟩, prog_9_method_18_code, 1, (some FieldType.int))
set_option maxRecDepth 100000 in
theorem d_Store_functions_0 : decode prog_9_method_18_code 0 = .ok (.aload_n 0, 1) := by decide +kernel
set_option maxRecDepth 100000 in
theorem d_Store_functions_1 : decode prog_9_method_18_code 1 = .ok (.getfield 51, 3) := by decide +kernel
set_option maxRecDepth 100000 in
theorem d_Store_functions_4 : decode prog_9_method_18_code 4 = .ok (.ireturn, 1) := by decide +kernel
set_option maxRecDepth 100000 in
theorem w_1470 : (Cond.methodLink "StowTongue" 191 ⟨"StowTongue$Store", "functions", "()I"⟩ : Cond) ∈ am_tbl := am_w 1470 (by decide +kernel) (by decide +kernel)
set_option maxRecDepth 100000 in
theorem w_1473 : (Cond.code ⟨"StowTongue$Store", "functions", "()I"⟩ prog_9_method_18_code 1 (some FieldType.int) : Cond) ∈ am_tbl := am_w 1473 rfl rfl
