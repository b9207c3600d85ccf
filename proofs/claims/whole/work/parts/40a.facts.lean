set_option maxRecDepth 100000 in
abbrev m_Arr_fill_aII : am_M := (⟨"java/util/Arrays", "fill", "([II)V"⟩, prog_29_method_103_code, 4, none)
set_option maxRecDepth 100000 in
theorem d_Arr_fill_aII_5 : decode prog_29_method_103_code 5 = .ok (.iload_n 2, 1) := by decide +kernel
set_option maxRecDepth 100000 in
theorem d_Arr_fill_aII_6 : decode prog_29_method_103_code 6 = .ok (.iload_n 3, 1) := by decide +kernel
set_option maxRecDepth 100000 in
theorem d_Arr_fill_aII_7 : decode prog_29_method_103_code 7 = .ok (.if_icmp .ge 13, 3) := by decide +kernel
set_option maxRecDepth 100000 in
theorem d_Arr_fill_aII_10 : decode prog_29_method_103_code 10 = .ok (.aload_n 0, 1) := by decide +kernel
set_option maxRecDepth 100000 in
theorem d_Arr_fill_aII_11 : decode prog_29_method_103_code 11 = .ok (.iload_n 2, 1) := by decide +kernel
set_option maxRecDepth 100000 in
theorem d_Arr_fill_aII_12 : decode prog_29_method_103_code 12 = .ok (.iload_n 1, 1) := by decide +kernel
set_option maxRecDepth 100000 in
theorem d_Arr_fill_aII_13 : decode prog_29_method_103_code 13 = .ok (.iastore, 1) := by decide +kernel
set_option maxRecDepth 100000 in
theorem d_Arr_fill_aII_14 : decode prog_29_method_103_code 14 = .ok (.iinc 2 1, 3) := by decide +kernel
set_option maxRecDepth 100000 in
theorem d_Arr_fill_aII_17 : decode prog_29_method_103_code 17 = .ok (.goto (-12), 3) := by decide +kernel
set_option maxRecDepth 100000 in
theorem d_Arr_fill_aII_0 : decode prog_29_method_103_code 0 = .ok (.iconst 0, 1) := by decide +kernel
set_option maxRecDepth 100000 in
theorem d_Arr_fill_aII_1 : decode prog_29_method_103_code 1 = .ok (.istore_n 2, 1) := by decide +kernel
set_option maxRecDepth 100000 in
theorem d_Arr_fill_aII_2 : decode prog_29_method_103_code 2 = .ok (.aload_n 0, 1) := by decide +kernel
set_option maxRecDepth 100000 in
theorem d_Arr_fill_aII_3 : decode prog_29_method_103_code 3 = .ok (.arraylength, 1) := by decide +kernel
set_option maxRecDepth 100000 in
theorem d_Arr_fill_aII_4 : decode prog_29_method_103_code 4 = .ok (.istore_n 3, 1) := by decide +kernel
set_option maxRecDepth 100000 in
theorem d_Arr_fill_aII_20 : decode prog_29_method_103_code 20 = .ok (.return_, 1) := by decide +kernel
set_option maxRecDepth 100000 in
abbrev m_Arr_fill_aZZ : am_M := (⟨"java/util/Arrays", "fill", "([ZZ)V"⟩, prog_29_method_111_code, 4, none)
set_option maxRecDepth 100000 in
theorem d_Arr_fill_aZZ_5 : decode prog_29_method_111_code 5 = .ok (.iload_n 2, 1) := by decide +kernel
set_option maxRecDepth 100000 in
theorem d_Arr_fill_aZZ_6 : decode prog_29_method_111_code 6 = .ok (.iload_n 3, 1) := by decide +kernel
set_option maxRecDepth 100000 in
theorem d_Arr_fill_aZZ_7 : decode prog_29_method_111_code 7 = .ok (.if_icmp .ge 13, 3) := by decide +kernel
set_option maxRecDepth 100000 in
theorem d_Arr_fill_aZZ_10 : decode prog_29_method_111_code 10 = .ok (.aload_n 0, 1) := by decide +kernel
set_option maxRecDepth 100000 in
theorem d_Arr_fill_aZZ_11 : decode prog_29_method_111_code 11 = .ok (.iload_n 2, 1) := by decide +kernel
set_option maxRecDepth 100000 in
theorem d_Arr_fill_aZZ_12 : decode prog_29_method_111_code 12 = .ok (.iload_n 1, 1) := by decide +kernel
set_option maxRecDepth 100000 in
theorem d_Arr_fill_aZZ_13 : decode prog_29_method_111_code 13 = .ok (.bastore, 1) := by decide +kernel
set_option maxRecDepth 100000 in
theorem d_Arr_fill_aZZ_14 : decode prog_29_method_111_code 14 = .ok (.iinc 2 1, 3) := by decide +kernel
set_option maxRecDepth 100000 in
theorem d_Arr_fill_aZZ_17 : decode prog_29_method_111_code 17 = .ok (.goto (-12), 3) := by decide +kernel
set_option maxRecDepth 100000 in
theorem d_Arr_fill_aZZ_0 : decode prog_29_method_111_code 0 = .ok (.iconst 0, 1) := by decide +kernel
set_option maxRecDepth 100000 in
theorem d_Arr_fill_aZZ_1 : decode prog_29_method_111_code 1 = .ok (.istore_n 2, 1) := by decide +kernel
set_option maxRecDepth 100000 in
theorem d_Arr_fill_aZZ_2 : decode prog_29_method_111_code 2 = .ok (.aload_n 0, 1) := by decide +kernel
set_option maxRecDepth 100000 in
theorem d_Arr_fill_aZZ_3 : decode prog_29_method_111_code 3 = .ok (.arraylength, 1) := by decide +kernel
set_option maxRecDepth 100000 in
theorem d_Arr_fill_aZZ_4 : decode prog_29_method_111_code 4 = .ok (.istore_n 3, 1) := by decide +kernel
set_option maxRecDepth 100000 in
theorem d_Arr_fill_aZZ_20 : decode prog_29_method_111_code 20 = .ok (.return_, 1) := by decide +kernel
set_option maxRecDepth 100000 in
abbrev m_Store_isThere : am_M := (⟨"StowTongue$Store", "isThere", "(I)Z"⟩, prog_9_method_4_code, 2, (some FieldType.boolean))
set_option maxRecDepth 100000 in
theorem d_Store_isThere_0 : decode prog_9_method_4_code 0 = .ok (.iload_n 1, 1) := by decide +kernel
set_option maxRecDepth 100000 in
theorem d_Store_isThere_1 : decode prog_9_method_4_code 1 = .ok (.ifCond .lt 23, 3) := by decide +kernel
set_option maxRecDepth 100000 in
theorem d_Store_isThere_4 : decode prog_9_method_4_code 4 = .ok (.iload_n 1, 1) := by decide +kernel
set_option maxRecDepth 100000 in
theorem d_Store_isThere_5 : decode prog_9_method_4_code 5 = .ok (.bipush 100, 2) := by decide +kernel
set_option maxRecDepth 100000 in
theorem d_Store_isThere_7 : decode prog_9_method_4_code 7 = .ok (.if_icmp .ge 17, 3) := by decide +kernel
set_option maxRecDepth 100000 in
theorem d_Store_isThere_10 : decode prog_9_method_4_code 10 = .ok (.aload_n 0, 1) := by decide +kernel
set_option maxRecDepth 100000 in
theorem cl_10 : am_Cl ("StowTongue$Store", TC10, 9) := ⟨am_in_r [989, 991, 993, 995, 997, 999, 1001, 1003, 1005] (by decide +kernel) (by decide +kernel), by decide +kernel, by decide +kernel⟩
set_option maxRecDepth 100000 in
theorem w_976 : (Cond.fieldLink "StowTongue$Store" 16 "StowTongue$Store" "cells" "[I" : Cond) ∈ am_tbl := am_w 976 (by decide +kernel) (by decide +kernel)
set_option maxRecDepth 100000 in
theorem f_Store_16 : am_F "StowTongue$Store" 16 10 2 := ⟨_, rfl, cl_10, by decide, Or.inl w_976⟩
set_option maxRecDepth 100000 in
theorem d_Store_isThere_11 : decode prog_9_method_4_code 11 = .ok (.getfield 16, 3) := by decide +kernel
set_option maxRecDepth 100000 in
theorem d_Store_isThere_14 : decode prog_9_method_4_code 14 = .ok (.iload_n 1, 1) := by decide +kernel
set_option maxRecDepth 100000 in
theorem d_Store_isThere_15 : decode prog_9_method_4_code 15 = .ok (.iaload, 1) := by decide +kernel
set_option maxRecDepth 100000 in
theorem d_Store_isThere_16 : decode prog_9_method_4_code 16 = .ok (.iconst (-1), 1) := by decide +kernel
set_option maxRecDepth 100000 in
theorem d_Store_isThere_17 : decode prog_9_method_4_code 17 = .ok (.if_icmp .eq 7, 3) := by decide +kernel
set_option maxRecDepth 100000 in
theorem d_Store_isThere_24 : decode prog_9_method_4_code 24 = .ok (.iconst 0, 1) := by decide +kernel
set_option maxRecDepth 100000 in
theorem d_Store_isThere_25 : decode prog_9_method_4_code 25 = .ok (.ireturn, 1) := by decide +kernel
set_option maxRecDepth 100000 in
abbrev m_Store_objects : am_M := (⟨"StowTongue$Store", "objects", "()I"⟩, prog_9_method_3_code, 3, (some FieldType.int))
set_option maxRecDepth 100000 in
theorem d_Store_objects_4 : decode prog_9_method_3_code 4 = .ok (.iload_n 2, 1) := by decide +kernel
set_option maxRecDepth 100000 in
theorem d_Store_objects_5 : decode prog_9_method_3_code 5 = .ok (.bipush 100, 2) := by decide +kernel
set_option maxRecDepth 100000 in
theorem d_Store_objects_7 : decode prog_9_method_3_code 7 = .ok (.if_icmp .ge 20, 3) := by decide +kernel
set_option maxRecDepth 100000 in
theorem d_Store_objects_10 : decode prog_9_method_3_code 10 = .ok (.aload_n 0, 1) := by decide +kernel
set_option maxRecDepth 100000 in
theorem d_Store_objects_11 : decode prog_9_method_3_code 11 = .ok (.iload_n 2, 1) := by decide +kernel
set_option maxRecDepth 100000 in
theorem d_Store_objects_12 : decode prog_9_method_3_code 12 = .ok (.invokevirtual 54, 3) := by decide +kernel
set_option maxRecDepth 100000 in
theorem w_1244 : (Cond.methodLink "StowTongue$Store" 54 ⟨"StowTongue$Store", "isThere", "(I)Z"⟩ : Cond) ∈ am_tbl := am_w 1244 (by decide +kernel) (by decide +kernel)
set_option maxRecDepth 100000 in
theorem w_169 : (Cond.initialized "StowTongue$Store" : Cond) ∈ am_tbl := am_w 169 (by decide +kernel) (by decide +kernel)
set_option maxRecDepth 100000 in
theorem w_1247 : (Cond.code ⟨"StowTongue$Store", "isThere", "(I)Z"⟩ prog_9_method_4_code 2 (some FieldType.boolean) : Cond) ∈ am_tbl := am_w 1247 rfl rfl
set_option maxRecDepth 100000 in
theorem l_Store_54 : am_L "StowTongue$Store" 54 1 m_Store_isThere := ⟨Or.inl w_1244, w_169, w_1247, ⟨by decide, by decide⟩, by decide +kernel, by decide⟩
set_option maxRecDepth 100000 in
theorem w_1245 : (Cond.instanceMethod ⟨"StowTongue$Store", "isThere", "(I)Z"⟩ : Cond) ∈ am_tbl := am_w 1245 (by decide +kernel) (by decide +kernel)
set_option maxRecDepth 100000 in
theorem w_1246 : (Cond.selects "StowTongue$Store" ⟨"StowTongue$Store", "isThere", "(I)Z"⟩ ⟨"StowTongue$Store", "isThere", "(I)Z"⟩ : Cond) ∈ am_tbl := am_w 1246 (by decide +kernel) (by decide +kernel)
set_option maxRecDepth 100000 in
theorem d_Store_objects_15 : decode prog_9_method_3_code 15 = .ok (.ifCond .eq 6, 3) := by decide +kernel
set_option maxRecDepth 100000 in
theorem d_Store_objects_21 : decode prog_9_method_3_code 21 = .ok (.iinc 2 1, 3) := by decide +kernel
set_option maxRecDepth 100000 in
theorem d_Store_objects_24 : decode prog_9_method_3_code 24 = .ok (.goto (-20), 3) := by decide +kernel
set_option maxRecDepth 100000 in
theorem d_Store_objects_0 : decode prog_9_method_3_code 0 = .ok (.iconst 0, 1) := by decide +kernel
set_option maxRecDepth 100000 in
theorem d_Store_objects_1 : decode prog_9_method_3_code 1 = .ok (.istore_n 1, 1) := by decide +kernel
set_option maxRecDepth 100000 in
theorem d_Store_objects_2 : decode prog_9_method_3_code 2 = .ok (.iconst 0, 1) := by decide +kernel
set_option maxRecDepth 100000 in
theorem d_Store_objects_3 : decode prog_9_method_3_code 3 = .ok (.istore_n 2, 1) := by decide +kernel
set_option maxRecDepth 100000 in
theorem d_Store_objects_27 : decode prog_9_method_3_code 27 = .ok (.iload_n 1, 1) := by decide +kernel
set_option maxRecDepth 100000 in
theorem d_Store_objects_28 : decode prog_9_method_3_code 28 = .ok (.ireturn, 1) := by decide +kernel
set_option maxRecDepth 100000 in
abbrev m_Store_objectsChangedSince : am_M := (⟨"StowTongue$Store", "objectsChangedSince", "(LStowTongue$Store;)I"⟩, prog_9_method_23_code, 4, (some FieldType.int))
set_option maxRecDepth 100000 in
theorem d_Store_objectsChangedSince_4 : decode prog_9_method_23_code 4 = .ok (.iload_n 3, 1) := by decide +kernel
set_option maxRecDepth 100000 in
theorem d_Store_objectsChangedSince_5 : decode prog_9_method_23_code 5 = .ok (.bipush 100, 2) := by decide +kernel
set_option maxRecDepth 100000 in
theorem d_Store_objectsChangedSince_7 : decode prog_9_method_23_code 7 = .ok (.if_icmp .ge 29, 3) := by decide +kernel
set_option maxRecDepth 100000 in
theorem d_Store_objectsChangedSince_10 : decode prog_9_method_23_code 10 = .ok (.aload_n 0, 1) := by decide +kernel
set_option maxRecDepth 100000 in
theorem d_Store_objectsChangedSince_11 : decode prog_9_method_23_code 11 = .ok (.iload_n 3, 1) := by decide +kernel
set_option maxRecDepth 100000 in
theorem d_Store_objectsChangedSince_12 : decode prog_9_method_23_code 12 = .ok (.invokevirtual 54, 3) := by decide +kernel
set_option maxRecDepth 100000 in
theorem d_Store_objectsChangedSince_15 : decode prog_9_method_23_code 15 = .ok (.ifCond .eq 15, 3) := by decide +kernel
set_option maxRecDepth 100000 in
theorem d_Store_objectsChangedSince_30 : decode prog_9_method_23_code 30 = .ok (.iinc 3 1, 3) := by decide +kernel
set_option maxRecDepth 100000 in
theorem d_Store_objectsChangedSince_33 : decode prog_9_method_23_code 33 = .ok (.goto (-29), 3) := by decide +kernel
set_option maxRecDepth 100000 in
theorem d_Store_objectsChangedSince_0 : decode prog_9_method_23_code 0 = .ok (.iconst 0, 1) := by decide +kernel
set_option maxRecDepth 100000 in
theorem d_Store_objectsChangedSince_1 : decode prog_9_method_23_code 1 = .ok (.istore_n 2, 1) := by decide +kernel
set_option maxRecDepth 100000 in
theorem d_Store_objectsChangedSince_2 : decode prog_9_method_23_code 2 = .ok (.iconst 0, 1) := by decide +kernel
set_option maxRecDepth 100000 in
theorem d_Store_objectsChangedSince_3 : decode prog_9_method_23_code 3 = .ok (.istore_n 3, 1) := by decide +kernel
set_option maxRecDepth 100000 in
theorem d_Store_objectsChangedSince_36 : decode prog_9_method_23_code 36 = .ok (.iload_n 2, 1) := by decide +kernel
set_option maxRecDepth 100000 in
theorem d_Store_objectsChangedSince_37 : decode prog_9_method_23_code 37 = .ok (.ireturn, 1) := by decide +kernel
set_option maxRecDepth 100000 in
abbrev m_Sweep_takeUnreached : am_M := (⟨"StowTongue$Sweeper", "takeUnreached", "(LStowTongue$Store;)I"⟩, prog_10_method_5_code, 4, (some FieldType.int))
set_option maxRecDepth 100000 in
theorem d_Sweep_takeUnreached_4 : decode prog_10_method_5_code 4 = .ok (.iload_n 3, 1) := by decide +kernel
set_option maxRecDepth 100000 in
theorem d_Sweep_takeUnreached_5 : decode prog_10_method_5_code 5 = .ok (.bipush 100, 2) := by decide +kernel
set_option maxRecDepth 100000 in
theorem d_Sweep_takeUnreached_7 : decode prog_10_method_5_code 7 = .ok (.if_icmp .ge 34, 3) := by decide +kernel
set_option maxRecDepth 100000 in
theorem d_Sweep_takeUnreached_10 : decode prog_10_method_5_code 10 = .ok (.aload_n 0, 1) := by decide +kernel
set_option maxRecDepth 100000 in
theorem d_Sweep_takeUnreached_11 : decode prog_10_method_5_code 11 = .ok (.getfield 9, 3) := by decide +kernel
set_option maxRecDepth 100000 in
theorem d_Sweep_takeUnreached_14 : decode prog_10_method_5_code 14 = .ok (.iload_n 3, 1) := by decide +kernel
set_option maxRecDepth 100000 in
theorem d_Sweep_takeUnreached_15 : decode prog_10_method_5_code 15 = .ok (.baload, 1) := by decide +kernel
set_option maxRecDepth 100000 in
theorem d_Sweep_takeUnreached_16 : decode prog_10_method_5_code 16 = .ok (.ifCond .ne 19, 3) := by decide +kernel
set_option maxRecDepth 100000 in
theorem d_Sweep_takeUnreached_19 : decode prog_10_method_5_code 19 = .ok (.aload_n 1, 1) := by decide +kernel
set_option maxRecDepth 100000 in
theorem d_Sweep_takeUnreached_20 : decode prog_10_method_5_code 20 = .ok (.iload_n 3, 1) := by decide +kernel
set_option maxRecDepth 100000 in
theorem d_Sweep_takeUnreached_21 : decode prog_10_method_5_code 21 = .ok (.invokevirtual 67, 3) := by decide +kernel
set_option maxRecDepth 100000 in
theorem w_1456 : (Cond.methodLink "StowTongue$Sweeper" 67 ⟨"StowTongue$Store", "isThere", "(I)Z"⟩ : Cond) ∈ am_tbl := am_w 1456 (by decide +kernel) (by decide +kernel)
set_option maxRecDepth 100000 in
theorem l_Sweep_67 : am_L "StowTongue$Sweeper" 67 1 m_Store_isThere := ⟨Or.inl w_1456, w_169, w_1247, ⟨by decide, by decide⟩, by decide +kernel, by decide⟩
set_option maxRecDepth 100000 in
theorem d_Sweep_takeUnreached_24 : decode prog_10_method_5_code 24 = .ok (.ifCond .eq 11, 3) := by decide +kernel
set_option maxRecDepth 100000 in
theorem d_Sweep_takeUnreached_35 : decode prog_10_method_5_code 35 = .ok (.iinc 3 1, 3) := by decide +kernel
set_option maxRecDepth 100000 in
theorem d_Sweep_takeUnreached_38 : decode prog_10_method_5_code 38 = .ok (.goto (-34), 3) := by decide +kernel
set_option maxRecDepth 100000 in
theorem d_Sweep_takeUnreached_0 : decode prog_10_method_5_code 0 = .ok (.iconst 0, 1) := by decide +kernel
set_option maxRecDepth 100000 in
theorem d_Sweep_takeUnreached_1 : decode prog_10_method_5_code 1 = .ok (.istore_n 2, 1) := by decide +kernel
set_option maxRecDepth 100000 in
theorem d_Sweep_takeUnreached_2 : decode prog_10_method_5_code 2 = .ok (.iconst 0, 1) := by decide +kernel
set_option maxRecDepth 100000 in
theorem d_Sweep_takeUnreached_3 : decode prog_10_method_5_code 3 = .ok (.istore_n 3, 1) := by decide +kernel
set_option maxRecDepth 100000 in
theorem d_Sweep_takeUnreached_41 : decode prog_10_method_5_code 41 = .ok (.iload_n 2, 1) := by decide +kernel
set_option maxRecDepth 100000 in
theorem d_Sweep_takeUnreached_42 : decode prog_10_method_5_code 42 = .ok (.ireturn, 1) := by decide +kernel
set_option maxRecDepth 100000 in
abbrev m_Mod_sweep : am_M := (⟨"StowTongueModel", "sweep", "()I"⟩, prog_13_method_70_code, 4, (some FieldType.int))
set_option maxRecDepth 100000 in
theorem d_Mod_sweep_146 : decode prog_13_method_70_code 146 = .ok (.iload_n 2, 1) := by decide +kernel
set_option maxRecDepth 100000 in
theorem d_Mod_sweep_147 : decode prog_13_method_70_code 147 = .ok (.bipush 100, 2) := by decide +kernel
set_option maxRecDepth 100000 in
theorem d_Mod_sweep_149 : decode prog_13_method_70_code 149 = .ok (.if_icmp .ge 69, 3) := by decide +kernel
set_option maxRecDepth 100000 in
theorem d_Mod_sweep_152 : decode prog_13_method_70_code 152 = .ok (.aload_n 0, 1) := by decide +kernel
set_option maxRecDepth 100000 in
theorem d_Mod_sweep_153 : decode prog_13_method_70_code 153 = .ok (.getfield 349, 3) := by decide +kernel
set_option maxRecDepth 100000 in
theorem w_1572 : (Cond.fieldLink "StowTongueModel" 457 "StowTongueModel$State" "kind" "[I" : Cond) ∈ am_tbl := am_w 1572 (by decide +kernel) (by decide +kernel)
set_option maxRecDepth 100000 in
theorem f_Mod_457 : am_F "StowTongueModel" 457 13 0 := ⟨_, rfl, cl_13, by decide, Or.inl w_1572⟩
set_option maxRecDepth 100000 in
theorem d_Mod_sweep_156 : decode prog_13_method_70_code 156 = .ok (.getfield 457, 3) := by decide +kernel
set_option maxRecDepth 100000 in
theorem d_Mod_sweep_159 : decode prog_13_method_70_code 159 = .ok (.iload_n 2, 1) := by decide +kernel
set_option maxRecDepth 100000 in
theorem d_Mod_sweep_160 : decode prog_13_method_70_code 160 = .ok (.iaload, 1) := by decide +kernel
set_option maxRecDepth 100000 in
theorem d_Mod_sweep_161 : decode prog_13_method_70_code 161 = .ok (.ifCond .eq 51, 3) := by decide +kernel
set_option maxRecDepth 100000 in
theorem d_Mod_sweep_212 : decode prog_13_method_70_code 212 = .ok (.iinc 2 1, 3) := by decide +kernel
set_option maxRecDepth 100000 in
theorem d_Mod_sweep_215 : decode prog_13_method_70_code 215 = .ok (.goto (-69), 3) := by decide +kernel
set_option maxRecDepth 100000 in
abbrev m_Mod_run : am_M := (⟨"StowTongueModel", "run", "(I)I"⟩, prog_13_method_42_code, 6, (some FieldType.int))
set_option maxRecDepth 100000 in
theorem d_Mod_run_105 : decode prog_13_method_42_code 105 = .ok (.iload 4, 2) := by decide +kernel
set_option maxRecDepth 100000 in
theorem d_Mod_run_107 : decode prog_13_method_42_code 107 = .ok (.bipush 100, 2) := by decide +kernel
set_option maxRecDepth 100000 in
theorem d_Mod_run_109 : decode prog_13_method_42_code 109 = .ok (.if_icmp .ge 54, 3) := by decide +kernel
set_option maxRecDepth 100000 in
theorem d_Mod_run_112 : decode prog_13_method_42_code 112 = .ok (.aload_n 0, 1) := by decide +kernel
set_option maxRecDepth 100000 in
theorem d_Mod_run_113 : decode prog_13_method_42_code 113 = .ok (.getfield 353, 3) := by decide +kernel
set_option maxRecDepth 100000 in
theorem d_Mod_run_116 : decode prog_13_method_42_code 116 = .ok (.getfield 457, 3) := by decide +kernel
set_option maxRecDepth 100000 in
theorem d_Mod_run_119 : decode prog_13_method_42_code 119 = .ok (.iload 4, 2) := by decide +kernel
set_option maxRecDepth 100000 in
theorem d_Mod_run_121 : decode prog_13_method_42_code 121 = .ok (.iaload, 1) := by decide +kernel
set_option maxRecDepth 100000 in
theorem d_Mod_run_122 : decode prog_13_method_42_code 122 = .ok (.ifCond .eq 35, 3) := by decide +kernel
set_option maxRecDepth 100000 in
theorem d_Mod_run_157 : decode prog_13_method_42_code 157 = .ok (.iinc 4 1, 3) := by decide +kernel
set_option maxRecDepth 100000 in
theorem d_Mod_run_160 : decode prog_13_method_42_code 160 = .ok (.goto (-55), 3) := by decide +kernel
set_option maxRecDepth 100000 in
abbrev m_Sweep_clean : am_M := (⟨"StowTongue$Sweeper", "clean", "(LStowTongue$Store;)I"⟩, prog_10_method_2_code, 3, (some FieldType.int))
set_option maxRecDepth 100000 in
theorem d_Sweep_clean_2 : decode prog_10_method_2_code 2 = .ok (.iload_n 2, 1) := by decide +kernel
set_option maxRecDepth 100000 in
theorem d_Sweep_clean_3 : decode prog_10_method_2_code 3 = .ok (.bipush 100, 2) := by decide +kernel
set_option maxRecDepth 100000 in
theorem d_Sweep_clean_5 : decode prog_10_method_2_code 5 = .ok (.if_icmp .ge 16, 3) := by decide +kernel
set_option maxRecDepth 100000 in
theorem d_Sweep_clean_8 : decode prog_10_method_2_code 8 = .ok (.aload_n 0, 1) := by decide +kernel
set_option maxRecDepth 100000 in
theorem d_Sweep_clean_9 : decode prog_10_method_2_code 9 = .ok (.getfield 9, 3) := by decide +kernel
set_option maxRecDepth 100000 in
theorem d_Sweep_clean_12 : decode prog_10_method_2_code 12 = .ok (.iload_n 2, 1) := by decide +kernel
set_option maxRecDepth 100000 in
theorem d_Sweep_clean_13 : decode prog_10_method_2_code 13 = .ok (.iconst 0, 1) := by decide +kernel
set_option maxRecDepth 100000 in
theorem d_Sweep_clean_14 : decode prog_10_method_2_code 14 = .ok (.bastore, 1) := by decide +kernel
set_option maxRecDepth 100000 in
theorem d_Sweep_clean_15 : decode prog_10_method_2_code 15 = .ok (.iinc 2 1, 3) := by decide +kernel
set_option maxRecDepth 100000 in
theorem d_Sweep_clean_18 : decode prog_10_method_2_code 18 = .ok (.goto (-16), 3) := by decide +kernel
set_option maxRecDepth 100000 in
abbrev m_Stow_value : am_M := (⟨"StowTongue", "value", "()J"⟩, prog_1_method_7_code, 1, (some FieldType.long))
set_option maxRecDepth 100000 in
theorem d_Stow_value_0 : decode prog_1_method_7_code 0 = .ok (.aload_n 0, 1) := by decide +kernel
set_option maxRecDepth 100000 in
theorem w_502 : (Cond.fieldLink "StowTongue" 93 "StowTongue" "valueHead" "J" : Cond) ∈ am_tbl := am_w 502 (by decide +kernel) (by decide +kernel)
set_option maxRecDepth 100000 in
theorem f_Stow_93 : am_F "StowTongue" 93 9 7 := ⟨_, rfl, cl_9, by decide, Or.inl w_502⟩
set_option maxRecDepth 100000 in
theorem d_Stow_value_1 : decode prog_1_method_7_code 1 = .ok (.getfield 93, 3) := by decide +kernel
set_option maxRecDepth 100000 in
abbrev m_Cell_sortOf : am_M := (⟨"StowTongue$Cell", "sortOf", "(J)I"⟩, prog_2_method_3_code, 2, (some FieldType.int))
set_option maxRecDepth 100000 in
theorem d_Cell_sortOf_0 : decode prog_2_method_3_code 0 = .ok (.lload_n 0, 1) := by decide +kernel
set_option maxRecDepth 100000 in
theorem d_Cell_sortOf_1 : decode prog_2_method_3_code 1 = .ok (.bipush 56, 2) := by decide +kernel
set_option maxRecDepth 100000 in
theorem d_Cell_sortOf_3 : decode prog_2_method_3_code 3 = .ok (.lushr, 1) := by decide +kernel
set_option maxRecDepth 100000 in
theorem d_Cell_sortOf_4 : decode prog_2_method_3_code 4 = .ok (.l2i, 1) := by decide +kernel
set_option maxRecDepth 100000 in
theorem d_Cell_sortOf_5 : decode prog_2_method_3_code 5 = .ok (.ireturn, 1) := by decide +kernel
set_option maxRecDepth 100000 in
theorem w_1374 : (Cond.methodLink "StowTongue" 116 ⟨"StowTongue$Cell", "sortOf", "(J)I"⟩ : Cond) ∈ am_tbl := am_w 1374 (by decide +kernel) (by decide +kernel)
set_option maxRecDepth 100000 in
theorem w_1105 : (Cond.code ⟨"StowTongue$Cell", "sortOf", "(J)I"⟩ prog_2_method_3_code 2 (some FieldType.int) : Cond) ∈ am_tbl := am_w 1105 rfl rfl
set_option maxRecDepth 100000 in
theorem l_Stow_116 : am_L "StowTongue" 116 1 m_Cell_sortOf := ⟨Or.inl w_1374, w_151, w_1105, ⟨by decide, by decide⟩, by decide +kernel, by decide⟩
set_option maxRecDepth 100000 in
theorem w_1104 : (Cond.static ⟨"StowTongue$Cell", "sortOf", "(J)I"⟩ : Cond) ∈ am_tbl := am_w 1104 (by decide +kernel) (by decide +kernel)
set_option maxRecDepth 100000 in
theorem d_Stow_value_4 : decode prog_1_method_7_code 4 = .ok (.invokestatic 116, 3) := by decide +kernel
set_option maxRecDepth 100000 in
theorem d_Stow_value_7 : decode prog_1_method_7_code 7 = .ok (.iconst 2, 1) := by decide +kernel
set_option maxRecDepth 100000 in
theorem d_Stow_value_8 : decode prog_1_method_7_code 8 = .ok (.if_icmp .ne 25, 3) := by decide +kernel
set_option maxRecDepth 100000 in
theorem d_Stow_value_33 : decode prog_1_method_7_code 33 = .ok (.aload_n 0, 1) := by decide +kernel
set_option maxRecDepth 100000 in
theorem d_Stow_value_34 : decode prog_1_method_7_code 34 = .ok (.getfield 93, 3) := by decide +kernel
set_option maxRecDepth 100000 in
theorem d_Stow_value_37 : decode prog_1_method_7_code 37 = .ok (.aload_n 0, 1) := by decide +kernel
set_option maxRecDepth 100000 in
theorem w_503 : (Cond.fieldLink "StowTongue" 100 "StowTongue" "valueTail" "J" : Cond) ∈ am_tbl := am_w 503 (by decide +kernel) (by decide +kernel)
set_option maxRecDepth 100000 in
theorem f_Stow_100 : am_F "StowTongue" 100 9 8 := ⟨_, rfl, cl_9, by decide, Or.inl w_503⟩
set_option maxRecDepth 100000 in
theorem d_Stow_value_38 : decode prog_1_method_7_code 38 = .ok (.getfield 100, 3) := by decide +kernel
set_option maxRecDepth 100000 in
abbrev m_Stow_asAnswer : am_M := (⟨"StowTongue", "asAnswer", "(JJ)J"⟩, prog_1_method_8_code, 4, (some FieldType.long))
set_option maxRecDepth 100000 in
theorem d_Stow_asAnswer_0 : decode prog_1_method_8_code 0 = .ok (.lload_n 0, 1) := by decide +kernel
set_option maxRecDepth 100000 in
theorem d_Stow_asAnswer_1 : decode prog_1_method_8_code 1 = .ok (.invokestatic 116, 3) := by decide +kernel
set_option maxRecDepth 100000 in
theorem d_Stow_asAnswer_4 : decode prog_1_method_8_code 4 = .ok (.tableswitch 46 1 4 #[32, 34, 38, 42], 32) := by decide +kernel
set_option maxRecDepth 100000 in
theorem d_Stow_asAnswer_50 : decode prog_1_method_8_code 50 = .ok (.ldc2_w 136, 3) := by decide +kernel
set_option maxRecDepth 100000 in
theorem w_1382 : (Cond.constantLong "StowTongue" 136 1099511627776 : Cond) ∈ am_tbl := am_w 1382 (by decide +kernel) (by decide +kernel)
set_option maxRecDepth 100000 in
theorem d_Stow_asAnswer_53 : decode prog_1_method_8_code 53 = .ok (.lreturn, 1) := by decide +kernel
set_option maxRecDepth 100000 in
theorem w_1376 : (Cond.methodLink "StowTongue" 126 ⟨"StowTongue", "asAnswer", "(JJ)J"⟩ : Cond) ∈ am_tbl := am_w 1376 (by decide +kernel) (by decide +kernel)
set_option maxRecDepth 100000 in
theorem w_143 : (Cond.initialized "StowTongue" : Cond) ∈ am_tbl := am_w 143 (by decide +kernel) (by decide +kernel)
set_option maxRecDepth 100000 in
theorem w_1378 : (Cond.code ⟨"StowTongue", "asAnswer", "(JJ)J"⟩ prog_1_method_8_code 4 (some FieldType.long) : Cond) ∈ am_tbl := am_w 1378 rfl rfl
set_option maxRecDepth 100000 in
theorem l_Stow_126 : am_L "StowTongue" 126 2 m_Stow_asAnswer := ⟨Or.inl w_1376, w_143, w_1378, ⟨by decide, by decide⟩, by decide +kernel, by decide⟩
set_option maxRecDepth 100000 in
theorem w_1377 : (Cond.static ⟨"StowTongue", "asAnswer", "(JJ)J"⟩ : Cond) ∈ am_tbl := am_w 1377 (by decide +kernel) (by decide +kernel)
set_option maxRecDepth 100000 in
theorem d_Stow_value_41 : decode prog_1_method_7_code 41 = .ok (.invokestatic 126, 3) := by decide +kernel
set_option maxRecDepth 100000 in
theorem d_Stow_value_44 : decode prog_1_method_7_code 44 = .ok (.lreturn, 1) := by decide +kernel
set_option maxRecDepth 100000 in
abbrev m_Mod_value_ : am_M := (⟨"StowTongueModel", "value", "()J"⟩, prog_13_method_71_code, 2, (some FieldType.long))
set_option maxRecDepth 100000 in
theorem d_Mod_value__0 : decode prog_13_method_71_code 0 = .ok (.aload_n 0, 1) := by decide +kernel
set_option maxRecDepth 100000 in
theorem d_Mod_value__1 : decode prog_13_method_71_code 1 = .ok (.getfield 374, 3) := by decide +kernel
set_option maxRecDepth 100000 in
theorem w_1503 : (Cond.fieldLink "StowTongueModel" 515 "StowTongueModel$Values" "kind" "[I" : Cond) ∈ am_tbl := am_w 1503 (by decide +kernel) (by decide +kernel)
set_option maxRecDepth 100000 in
theorem f_Mod_515 : am_F "StowTongueModel" 515 11 0 := ⟨_, rfl, cl_11, by decide, Or.inl w_1503⟩
set_option maxRecDepth 100000 in
theorem d_Mod_value__4 : decode prog_13_method_71_code 4 = .ok (.getfield 515, 3) := by decide +kernel
set_option maxRecDepth 100000 in
theorem d_Mod_value__7 : decode prog_13_method_71_code 7 = .ok (.iconst 0, 1) := by decide +kernel
set_option maxRecDepth 100000 in
theorem d_Mod_value__8 : decode prog_13_method_71_code 8 = .ok (.iaload, 1) := by decide +kernel
set_option maxRecDepth 100000 in
theorem d_Mod_value__9 : decode prog_13_method_71_code 9 = .ok (.tableswitch 93 0 3 #[31, 35, 45, 89], 31) := by decide +kernel
set_option maxRecDepth 100000 in
theorem d_Mod_value__40 : decode prog_13_method_71_code 40 = .ok (.ldc2_w 50, 3) := by decide +kernel
set_option maxRecDepth 100000 in
theorem w_1823 : (Cond.constantLong "StowTongueModel" 50 1099511627776 : Cond) ∈ am_tbl := am_w 1823 (by decide +kernel) (by decide +kernel)
set_option maxRecDepth 100000 in
theorem d_Mod_value__43 : decode prog_13_method_71_code 43 = .ok (.lreturn, 1) := by decide +kernel
set_option maxRecDepth 100000 in
abbrev m_Stow_sync : am_M := (⟨"StowTongue", "sync", "()I"⟩, prog_1_method_11_code, 2, (some FieldType.int))
set_option maxRecDepth 100000 in
theorem d_Stow_sync_0 : decode prog_1_method_11_code 0 = .ok (.aload_n 0, 1) := by decide +kernel
set_option maxRecDepth 100000 in
theorem d_Stow_sync_1 : decode prog_1_method_11_code 1 = .ok (.getfield 37, 3) := by decide +kernel
set_option maxRecDepth 100000 in
abbrev m_Log_waiting : am_M := (⟨"StowTongue$Log", "waiting", "()I"⟩, prog_5_method_11_code, 1, (some FieldType.int))
set_option maxRecDepth 100000 in
theorem d_Log_waiting_0 : decode prog_5_method_11_code 0 = .ok (.aload_n 0, 1) := by decide +kernel
set_option maxRecDepth 100000 in
theorem w_467 : (Cond.fieldLink "StowTongue$Log" 27 "StowTongue$Log" "waiting" "I" : Cond) ∈ am_tbl := am_w 467 (by decide +kernel) (by decide +kernel)
set_option maxRecDepth 100000 in
theorem f_Log_27 : am_F "StowTongue$Log" 27 7 2 := ⟨_, rfl, cl_7, by decide, Or.inl w_467⟩
set_option maxRecDepth 100000 in
theorem d_Log_waiting_1 : decode prog_5_method_11_code 1 = .ok (.getfield 27, 3) := by decide +kernel
set_option maxRecDepth 100000 in
theorem d_Log_waiting_4 : decode prog_5_method_11_code 4 = .ok (.ireturn, 1) := by decide +kernel
set_option maxRecDepth 100000 in
theorem w_1409 : (Cond.methodLink "StowTongue" 169 ⟨"StowTongue$Log", "waiting", "()I"⟩ : Cond) ∈ am_tbl := am_w 1409 (by decide +kernel) (by decide +kernel)
set_option maxRecDepth 100000 in
theorem w_1412 : (Cond.code ⟨"StowTongue$Log", "waiting", "()I"⟩ prog_5_method_11_code 1 (some FieldType.int) : Cond) ∈ am_tbl := am_w 1412 rfl rfl
set_option maxRecDepth 100000 in
theorem l_Stow_169 : am_L "StowTongue" 169 0 m_Log_waiting := ⟨Or.inl w_1409, w_158, w_1412, ⟨by decide, by decide⟩, by decide +kernel, by decide⟩
set_option maxRecDepth 100000 in
theorem w_1410 : (Cond.instanceMethod ⟨"StowTongue$Log", "waiting", "()I"⟩ : Cond) ∈ am_tbl := am_w 1410 (by decide +kernel) (by decide +kernel)
set_option maxRecDepth 100000 in
theorem w_1411 : (Cond.selects "StowTongue$Log" ⟨"StowTongue$Log", "waiting", "()I"⟩ ⟨"StowTongue$Log", "waiting", "()I"⟩ : Cond) ∈ am_tbl := am_w 1411 (by decide +kernel) (by decide +kernel)
set_option maxRecDepth 100000 in
theorem d_Stow_sync_4 : decode prog_1_method_11_code 4 = .ok (.invokevirtual 169, 3) := by decide +kernel
set_option maxRecDepth 100000 in
theorem d_Stow_sync_7 : decode prog_1_method_11_code 7 = .ok (.istore_n 1, 1) := by decide +kernel
set_option maxRecDepth 100000 in
theorem d_Stow_sync_8 : decode prog_1_method_11_code 8 = .ok (.aload_n 0, 1) := by decide +kernel
set_option maxRecDepth 100000 in
theorem d_Stow_sync_9 : decode prog_1_method_11_code 9 = .ok (.getfield 37, 3) := by decide +kernel
set_option maxRecDepth 100000 in
theorem d_Stow_sync_12 : decode prog_1_method_11_code 12 = .ok (.iload_n 1, 1) := by decide +kernel
set_option maxRecDepth 100000 in
abbrev m_Log_settle : am_M := (⟨"StowTongue$Log", "settle", "(I)V"⟩, prog_5_method_7_code, 3, none)
set_option maxRecDepth 100000 in
theorem d_Log_settle_0 : decode prog_5_method_7_code 0 = .ok (.iconst 0, 1) := by decide +kernel
set_option maxRecDepth 100000 in
theorem d_Log_settle_1 : decode prog_5_method_7_code 1 = .ok (.istore_n 2, 1) := by decide +kernel
set_option maxRecDepth 100000 in
theorem d_Log_settle_2 : decode prog_5_method_7_code 2 = .ok (.iload_n 2, 1) := by decide +kernel
set_option maxRecDepth 100000 in
theorem d_Log_settle_3 : decode prog_5_method_7_code 3 = .ok (.iload_n 1, 1) := by decide +kernel
set_option maxRecDepth 100000 in
theorem d_Log_settle_4 : decode prog_5_method_7_code 4 = .ok (.if_icmp .ge 20, 3) := by decide +kernel
set_option maxRecDepth 100000 in
theorem d_Log_settle_24 : decode prog_5_method_7_code 24 = .ok (.return_, 1) := by decide +kernel
set_option maxRecDepth 100000 in
theorem w_1413 : (Cond.methodLink "StowTongue" 172 ⟨"StowTongue$Log", "settle", "(I)V"⟩ : Cond) ∈ am_tbl := am_w 1413 (by decide +kernel) (by decide +kernel)
set_option maxRecDepth 100000 in
theorem w_1365 : (Cond.code ⟨"StowTongue$Log", "settle", "(I)V"⟩ prog_5_method_7_code 3 none : Cond) ∈ am_tbl := am_w 1365 rfl rfl
set_option maxRecDepth 100000 in
theorem l_Stow_172 : am_L "StowTongue" 172 1 m_Log_settle := ⟨Or.inl w_1413, w_158, w_1365, ⟨by decide, by decide⟩, by decide +kernel, by decide⟩
set_option maxRecDepth 100000 in
theorem w_1363 : (Cond.instanceMethod ⟨"StowTongue$Log", "settle", "(I)V"⟩ : Cond) ∈ am_tbl := am_w 1363 (by decide +kernel) (by decide +kernel)
set_option maxRecDepth 100000 in
theorem w_1364 : (Cond.selects "StowTongue$Log" ⟨"StowTongue$Log", "settle", "(I)V"⟩ ⟨"StowTongue$Log", "settle", "(I)V"⟩ : Cond) ∈ am_tbl := am_w 1364 (by decide +kernel) (by decide +kernel)
set_option maxRecDepth 100000 in
theorem d_Stow_sync_13 : decode prog_1_method_11_code 13 = .ok (.invokevirtual 172, 3) := by decide +kernel
set_option maxRecDepth 100000 in
theorem d_Stow_sync_16 : decode prog_1_method_11_code 16 = .ok (.iload_n 1, 1) := by decide +kernel
set_option maxRecDepth 100000 in
theorem d_Stow_sync_17 : decode prog_1_method_11_code 17 = .ok (.ireturn, 1) := by decide +kernel
set_option maxRecDepth 100000 in
abbrev m_Mod_sync : am_M := (⟨"StowTongueModel", "sync", "()I"⟩, prog_13_method_67_code, 2, (some FieldType.int))
set_option maxRecDepth 100000 in
theorem d_Mod_sync_0 : decode prog_13_method_67_code 0 = .ok (.aload_n 0, 1) := by decide +kernel
set_option maxRecDepth 100000 in
theorem w_1656 : (Cond.fieldLink "StowTongueModel" 409 "StowTongueModel" "waits" "I" : Cond) ∈ am_tbl := am_w 1656 (by decide +kernel) (by decide +kernel)
set_option maxRecDepth 100000 in
theorem f_Mod_409 : am_F "StowTongueModel" 409 14 34 := ⟨_, rfl, cl_14, by decide, Or.inl w_1656⟩
set_option maxRecDepth 100000 in
theorem d_Mod_sync_1 : decode prog_13_method_67_code 1 = .ok (.getfield 409, 3) := by decide +kernel
set_option maxRecDepth 100000 in
theorem d_Mod_sync_4 : decode prog_13_method_67_code 4 = .ok (.istore_n 1, 1) := by decide +kernel
set_option maxRecDepth 100000 in
theorem d_Mod_sync_5 : decode prog_13_method_67_code 5 = .ok (.aload_n 0, 1) := by decide +kernel
set_option maxRecDepth 100000 in
theorem d_Mod_sync_6 : decode prog_13_method_67_code 6 = .ok (.getfield 356, 3) := by decide +kernel
set_option maxRecDepth 100000 in
theorem d_Mod_sync_9 : decode prog_13_method_67_code 9 = .ok (.aload_n 0, 1) := by decide +kernel
set_option maxRecDepth 100000 in
theorem d_Mod_sync_10 : decode prog_13_method_67_code 10 = .ok (.getfield 349, 3) := by decide +kernel
set_option maxRecDepth 100000 in
abbrev m_State_copy : am_M := (⟨"StowTongueModel$State", "copy", "(LStowTongueModel$State;)V"⟩, prog_15_method_2_code, 3, none)
set_option maxRecDepth 100000 in
theorem d_State_copy_0 : decode prog_15_method_2_code 0 = .ok (.aload_n 1, 1) := by decide +kernel
set_option maxRecDepth 100000 in
theorem d_State_copy_1 : decode prog_15_method_2_code 1 = .ok (.getfield 9, 3) := by decide +kernel
set_option maxRecDepth 100000 in
theorem d_State_copy_4 : decode prog_15_method_2_code 4 = .ok (.iconst 0, 1) := by decide +kernel
set_option maxRecDepth 100000 in
theorem d_State_copy_5 : decode prog_15_method_2_code 5 = .ok (.aload_n 0, 1) := by decide +kernel
set_option maxRecDepth 100000 in
theorem d_State_copy_6 : decode prog_15_method_2_code 6 = .ok (.getfield 9, 3) := by decide +kernel
set_option maxRecDepth 100000 in
theorem d_State_copy_9 : decode prog_15_method_2_code 9 = .ok (.iconst 0, 1) := by decide +kernel
set_option maxRecDepth 100000 in
theorem d_State_copy_10 : decode prog_15_method_2_code 10 = .ok (.bipush 100, 2) := by decide +kernel
set_option maxRecDepth 100000 in
theorem w_1990 : (Cond.methodLink "StowTongueModel$State" 46 ⟨"java/lang/System", "arraycopy", "(Ljava/lang/Object;ILjava/lang/Object;II)V"⟩ : Cond) ∈ am_tbl := am_w 1990 (by decide +kernel) (by decide +kernel)
set_option maxRecDepth 100000 in
theorem w_735 : (Cond.native ⟨"java/lang/System", "arraycopy", "(Ljava/lang/Object;ILjava/lang/Object;II)V"⟩ : Cond) ∈ am_tbl := am_w 735 (by decide +kernel) (by decide +kernel)
set_option maxRecDepth 100000 in
theorem w_734 : (Cond.static ⟨"java/lang/System", "arraycopy", "(Ljava/lang/Object;ILjava/lang/Object;II)V"⟩ : Cond) ∈ am_tbl := am_w 734 (by decide +kernel) (by decide +kernel)
set_option maxRecDepth 100000 in
theorem w_167 : (Cond.initialized "java/lang/System" : Cond) ∈ am_tbl := am_w 167 (by decide +kernel) (by decide +kernel)
set_option maxRecDepth 100000 in
theorem d_State_copy_12 : decode prog_15_method_2_code 12 = .ok (.invokestatic 46, 3) := by decide +kernel
set_option maxRecDepth 100000 in
theorem d_State_copy_15 : decode prog_15_method_2_code 15 = .ok (.aload_n 1, 1) := by decide +kernel
set_option maxRecDepth 100000 in
theorem d_State_copy_16 : decode prog_15_method_2_code 16 = .ok (.getfield 15, 3) := by decide +kernel
set_option maxRecDepth 100000 in
theorem d_State_copy_19 : decode prog_15_method_2_code 19 = .ok (.iconst 0, 1) := by decide +kernel
set_option maxRecDepth 100000 in
theorem d_State_copy_20 : decode prog_15_method_2_code 20 = .ok (.aload_n 0, 1) := by decide +kernel
set_option maxRecDepth 100000 in
theorem d_State_copy_21 : decode prog_15_method_2_code 21 = .ok (.getfield 15, 3) := by decide +kernel
set_option maxRecDepth 100000 in
theorem d_State_copy_24 : decode prog_15_method_2_code 24 = .ok (.iconst 0, 1) := by decide +kernel
set_option maxRecDepth 100000 in
theorem d_State_copy_25 : decode prog_15_method_2_code 25 = .ok (.bipush 100, 2) := by decide +kernel
set_option maxRecDepth 100000 in
theorem d_State_copy_27 : decode prog_15_method_2_code 27 = .ok (.invokestatic 46, 3) := by decide +kernel
set_option maxRecDepth 100000 in
theorem d_State_copy_30 : decode prog_15_method_2_code 30 = .ok (.aload_n 1, 1) := by decide +kernel
set_option maxRecDepth 100000 in
theorem d_State_copy_31 : decode prog_15_method_2_code 31 = .ok (.getfield 18, 3) := by decide +kernel
set_option maxRecDepth 100000 in
theorem d_State_copy_34 : decode prog_15_method_2_code 34 = .ok (.iconst 0, 1) := by decide +kernel
set_option maxRecDepth 100000 in
theorem d_State_copy_35 : decode prog_15_method_2_code 35 = .ok (.aload_n 0, 1) := by decide +kernel
set_option maxRecDepth 100000 in
theorem d_State_copy_36 : decode prog_15_method_2_code 36 = .ok (.getfield 18, 3) := by decide +kernel
set_option maxRecDepth 100000 in
theorem d_State_copy_39 : decode prog_15_method_2_code 39 = .ok (.iconst 0, 1) := by decide +kernel
set_option maxRecDepth 100000 in
theorem d_State_copy_40 : decode prog_15_method_2_code 40 = .ok (.sipush 800, 3) := by decide +kernel
set_option maxRecDepth 100000 in
theorem d_State_copy_43 : decode prog_15_method_2_code 43 = .ok (.invokestatic 46, 3) := by decide +kernel
set_option maxRecDepth 100000 in
theorem d_State_copy_46 : decode prog_15_method_2_code 46 = .ok (.aload_n 1, 1) := by decide +kernel
set_option maxRecDepth 100000 in
theorem d_State_copy_47 : decode prog_15_method_2_code 47 = .ok (.getfield 33, 3) := by decide +kernel
set_option maxRecDepth 100000 in
theorem w_1502 : (Cond.fieldLink "StowTongueModel$State" 52 "StowTongueModel$Values" "kind" "[I" : Cond) ∈ am_tbl := am_w 1502 (by decide +kernel) (by decide +kernel)
set_option maxRecDepth 100000 in
theorem f_State_52 : am_F "StowTongueModel$State" 52 11 0 := ⟨_, rfl, cl_11, by decide, Or.inl w_1502⟩
set_option maxRecDepth 100000 in
theorem d_State_copy_50 : decode prog_15_method_2_code 50 = .ok (.getfield 52, 3) := by decide +kernel
set_option maxRecDepth 100000 in
theorem d_State_copy_53 : decode prog_15_method_2_code 53 = .ok (.iconst 0, 1) := by decide +kernel
set_option maxRecDepth 100000 in
theorem d_State_copy_54 : decode prog_15_method_2_code 54 = .ok (.aload_n 0, 1) := by decide +kernel
set_option maxRecDepth 100000 in
theorem d_State_copy_55 : decode prog_15_method_2_code 55 = .ok (.getfield 33, 3) := by decide +kernel
set_option maxRecDepth 100000 in
theorem d_State_copy_58 : decode prog_15_method_2_code 58 = .ok (.getfield 52, 3) := by decide +kernel
set_option maxRecDepth 100000 in
theorem d_State_copy_61 : decode prog_15_method_2_code 61 = .ok (.iconst 0, 1) := by decide +kernel
set_option maxRecDepth 100000 in
theorem d_State_copy_62 : decode prog_15_method_2_code 62 = .ok (.sipush 2000, 3) := by decide +kernel
set_option maxRecDepth 100000 in
theorem d_State_copy_65 : decode prog_15_method_2_code 65 = .ok (.invokestatic 46, 3) := by decide +kernel
set_option maxRecDepth 100000 in
theorem d_State_copy_68 : decode prog_15_method_2_code 68 = .ok (.aload_n 1, 1) := by decide +kernel
set_option maxRecDepth 100000 in
theorem d_State_copy_69 : decode prog_15_method_2_code 69 = .ok (.getfield 33, 3) := by decide +kernel
set_option maxRecDepth 100000 in
theorem w_1505 : (Cond.fieldLink "StowTongueModel$State" 53 "StowTongueModel$Values" "size" "[I" : Cond) ∈ am_tbl := am_w 1505 (by decide +kernel) (by decide +kernel)
set_option maxRecDepth 100000 in
theorem f_State_53 : am_F "StowTongueModel$State" 53 11 1 := ⟨_, rfl, cl_11, by decide, Or.inl w_1505⟩
set_option maxRecDepth 100000 in
theorem d_State_copy_72 : decode prog_15_method_2_code 72 = .ok (.getfield 53, 3) := by decide +kernel
set_option maxRecDepth 100000 in
theorem d_State_copy_75 : decode prog_15_method_2_code 75 = .ok (.iconst 0, 1) := by decide +kernel
set_option maxRecDepth 100000 in
theorem d_State_copy_76 : decode prog_15_method_2_code 76 = .ok (.aload_n 0, 1) := by decide +kernel
set_option maxRecDepth 100000 in
theorem d_State_copy_77 : decode prog_15_method_2_code 77 = .ok (.getfield 33, 3) := by decide +kernel
set_option maxRecDepth 100000 in
theorem d_State_copy_80 : decode prog_15_method_2_code 80 = .ok (.getfield 53, 3) := by decide +kernel
set_option maxRecDepth 100000 in
theorem d_State_copy_83 : decode prog_15_method_2_code 83 = .ok (.iconst 0, 1) := by decide +kernel
set_option maxRecDepth 100000 in
theorem d_State_copy_84 : decode prog_15_method_2_code 84 = .ok (.sipush 2000, 3) := by decide +kernel
set_option maxRecDepth 100000 in
theorem d_State_copy_87 : decode prog_15_method_2_code 87 = .ok (.invokestatic 46, 3) := by decide +kernel
set_option maxRecDepth 100000 in
theorem d_State_copy_90 : decode prog_15_method_2_code 90 = .ok (.aload_n 1, 1) := by decide +kernel
set_option maxRecDepth 100000 in
theorem d_State_copy_91 : decode prog_15_method_2_code 91 = .ok (.getfield 33, 3) := by decide +kernel
set_option maxRecDepth 100000 in
theorem w_1508 : (Cond.fieldLink "StowTongueModel$State" 54 "StowTongueModel$Values" "one" "[J" : Cond) ∈ am_tbl := am_w 1508 (by decide +kernel) (by decide +kernel)
set_option maxRecDepth 100000 in
theorem f_State_54 : am_F "StowTongueModel$State" 54 11 2 := ⟨_, rfl, cl_11, by decide, Or.inl w_1508⟩
set_option maxRecDepth 100000 in
theorem d_State_copy_94 : decode prog_15_method_2_code 94 = .ok (.getfield 54, 3) := by decide +kernel
set_option maxRecDepth 100000 in
theorem d_State_copy_97 : decode prog_15_method_2_code 97 = .ok (.iconst 0, 1) := by decide +kernel
set_option maxRecDepth 100000 in
theorem d_State_copy_98 : decode prog_15_method_2_code 98 = .ok (.aload_n 0, 1) := by decide +kernel
set_option maxRecDepth 100000 in
theorem d_State_copy_99 : decode prog_15_method_2_code 99 = .ok (.getfield 33, 3) := by decide +kernel
set_option maxRecDepth 100000 in
theorem d_State_copy_102 : decode prog_15_method_2_code 102 = .ok (.getfield 54, 3) := by decide +kernel
set_option maxRecDepth 100000 in
theorem d_State_copy_105 : decode prog_15_method_2_code 105 = .ok (.iconst 0, 1) := by decide +kernel
set_option maxRecDepth 100000 in
theorem d_State_copy_106 : decode prog_15_method_2_code 106 = .ok (.sipush 2000, 3) := by decide +kernel
set_option maxRecDepth 100000 in
theorem d_State_copy_109 : decode prog_15_method_2_code 109 = .ok (.invokestatic 46, 3) := by decide +kernel
set_option maxRecDepth 100000 in
theorem d_State_copy_112 : decode prog_15_method_2_code 112 = .ok (.aload_n 1, 1) := by decide +kernel
set_option maxRecDepth 100000 in
theorem d_State_copy_113 : decode prog_15_method_2_code 113 = .ok (.getfield 33, 3) := by decide +kernel
set_option maxRecDepth 100000 in
theorem w_1511 : (Cond.fieldLink "StowTongueModel$State" 57 "StowTongueModel$Values" "two" "[J" : Cond) ∈ am_tbl := am_w 1511 (by decide +kernel) (by decide +kernel)
set_option maxRecDepth 100000 in
theorem f_State_57 : am_F "StowTongueModel$State" 57 11 3 := ⟨_, rfl, cl_11, by decide, Or.inl w_1511⟩
set_option maxRecDepth 100000 in
theorem d_State_copy_116 : decode prog_15_method_2_code 116 = .ok (.getfield 57, 3) := by decide +kernel
set_option maxRecDepth 100000 in
theorem d_State_copy_119 : decode prog_15_method_2_code 119 = .ok (.iconst 0, 1) := by decide +kernel
set_option maxRecDepth 100000 in
theorem d_State_copy_120 : decode prog_15_method_2_code 120 = .ok (.aload_n 0, 1) := by decide +kernel
set_option maxRecDepth 100000 in
theorem d_State_copy_121 : decode prog_15_method_2_code 121 = .ok (.getfield 33, 3) := by decide +kernel
set_option maxRecDepth 100000 in
theorem d_State_copy_124 : decode prog_15_method_2_code 124 = .ok (.getfield 57, 3) := by decide +kernel
set_option maxRecDepth 100000 in
theorem d_State_copy_127 : decode prog_15_method_2_code 127 = .ok (.iconst 0, 1) := by decide +kernel
set_option maxRecDepth 100000 in
theorem d_State_copy_128 : decode prog_15_method_2_code 128 = .ok (.sipush 2000, 3) := by decide +kernel
set_option maxRecDepth 100000 in
theorem d_State_copy_131 : decode prog_15_method_2_code 131 = .ok (.invokestatic 46, 3) := by decide +kernel
set_option maxRecDepth 100000 in
theorem d_State_copy_134 : decode prog_15_method_2_code 134 = .ok (.aload_n 1, 1) := by decide +kernel
set_option maxRecDepth 100000 in
theorem d_State_copy_135 : decode prog_15_method_2_code 135 = .ok (.getfield 22, 3) := by decide +kernel
set_option maxRecDepth 100000 in
theorem d_State_copy_138 : decode prog_15_method_2_code 138 = .ok (.iconst 0, 1) := by decide +kernel
set_option maxRecDepth 100000 in
theorem d_State_copy_139 : decode prog_15_method_2_code 139 = .ok (.aload_n 0, 1) := by decide +kernel
set_option maxRecDepth 100000 in
theorem d_State_copy_140 : decode prog_15_method_2_code 140 = .ok (.getfield 22, 3) := by decide +kernel
set_option maxRecDepth 100000 in
theorem d_State_copy_143 : decode prog_15_method_2_code 143 = .ok (.iconst 0, 1) := by decide +kernel
set_option maxRecDepth 100000 in
theorem d_State_copy_144 : decode prog_15_method_2_code 144 = .ok (.bipush 12, 2) := by decide +kernel
set_option maxRecDepth 100000 in
theorem d_State_copy_146 : decode prog_15_method_2_code 146 = .ok (.invokestatic 46, 3) := by decide +kernel
set_option maxRecDepth 100000 in
theorem d_State_copy_149 : decode prog_15_method_2_code 149 = .ok (.iconst 0, 1) := by decide +kernel
set_option maxRecDepth 100000 in
theorem d_State_copy_150 : decode prog_15_method_2_code 150 = .ok (.istore_n 2, 1) := by decide +kernel
set_option maxRecDepth 100000 in
theorem d_State_copy_151 : decode prog_15_method_2_code 151 = .ok (.iload_n 2, 1) := by decide +kernel
set_option maxRecDepth 100000 in
theorem d_State_copy_152 : decode prog_15_method_2_code 152 = .ok (.aload_n 1, 1) := by decide +kernel
set_option maxRecDepth 100000 in
theorem w_1589 : (Cond.fieldLink "StowTongueModel$State" 60 "StowTongueModel$State" "roots" "I" : Cond) ∈ am_tbl := am_w 1589 (by decide +kernel) (by decide +kernel)
set_option maxRecDepth 100000 in
theorem f_State_60 : am_F "StowTongueModel$State" 60 13 9 := ⟨_, rfl, cl_13, by decide, Or.inl w_1589⟩
set_option maxRecDepth 100000 in
theorem d_State_copy_153 : decode prog_15_method_2_code 153 = .ok (.getfield 60, 3) := by decide +kernel
set_option maxRecDepth 100000 in
theorem d_State_copy_156 : decode prog_15_method_2_code 156 = .ok (.if_icmp .ge 22, 3) := by decide +kernel
set_option maxRecDepth 100000 in
theorem d_State_copy_178 : decode prog_15_method_2_code 178 = .ok (.aload_n 1, 1) := by decide +kernel
set_option maxRecDepth 100000 in
theorem d_State_copy_179 : decode prog_15_method_2_code 179 = .ok (.getfield 25, 3) := by decide +kernel
set_option maxRecDepth 100000 in
theorem d_State_copy_182 : decode prog_15_method_2_code 182 = .ok (.iconst 0, 1) := by decide +kernel
set_option maxRecDepth 100000 in
theorem d_State_copy_183 : decode prog_15_method_2_code 183 = .ok (.aload_n 0, 1) := by decide +kernel
set_option maxRecDepth 100000 in
theorem d_State_copy_184 : decode prog_15_method_2_code 184 = .ok (.getfield 25, 3) := by decide +kernel
set_option maxRecDepth 100000 in
theorem d_State_copy_187 : decode prog_15_method_2_code 187 = .ok (.iconst 0, 1) := by decide +kernel
set_option maxRecDepth 100000 in
theorem d_State_copy_188 : decode prog_15_method_2_code 188 = .ok (.bipush 10, 2) := by decide +kernel
set_option maxRecDepth 100000 in
theorem d_State_copy_190 : decode prog_15_method_2_code 190 = .ok (.invokestatic 46, 3) := by decide +kernel
set_option maxRecDepth 100000 in
theorem d_State_copy_193 : decode prog_15_method_2_code 193 = .ok (.aload_n 1, 1) := by decide +kernel
set_option maxRecDepth 100000 in
theorem d_State_copy_194 : decode prog_15_method_2_code 194 = .ok (.getfield 42, 3) := by decide +kernel
set_option maxRecDepth 100000 in
theorem d_State_copy_197 : decode prog_15_method_2_code 197 = .ok (.iconst 0, 1) := by decide +kernel
set_option maxRecDepth 100000 in
theorem d_State_copy_198 : decode prog_15_method_2_code 198 = .ok (.aload_n 0, 1) := by decide +kernel
set_option maxRecDepth 100000 in
theorem d_State_copy_199 : decode prog_15_method_2_code 199 = .ok (.getfield 42, 3) := by decide +kernel
set_option maxRecDepth 100000 in
theorem d_State_copy_202 : decode prog_15_method_2_code 202 = .ok (.iconst 0, 1) := by decide +kernel
set_option maxRecDepth 100000 in
theorem d_State_copy_203 : decode prog_15_method_2_code 203 = .ok (.bipush 10, 2) := by decide +kernel
set_option maxRecDepth 100000 in
theorem d_State_copy_205 : decode prog_15_method_2_code 205 = .ok (.invokestatic 46, 3) := by decide +kernel
set_option maxRecDepth 100000 in
theorem d_State_copy_208 : decode prog_15_method_2_code 208 = .ok (.aload_n 0, 1) := by decide +kernel
set_option maxRecDepth 100000 in
theorem d_State_copy_209 : decode prog_15_method_2_code 209 = .ok (.aload_n 1, 1) := by decide +kernel
set_option maxRecDepth 100000 in
theorem w_1587 : (Cond.fieldLink "StowTongueModel$State" 68 "StowTongueModel$State" "objects" "I" : Cond) ∈ am_tbl := am_w 1587 (by decide +kernel) (by decide +kernel)
set_option maxRecDepth 100000 in
theorem f_State_68 : am_F "StowTongueModel$State" 68 13 8 := ⟨_, rfl, cl_13, by decide, Or.inl w_1587⟩
set_option maxRecDepth 100000 in
theorem d_State_copy_210 : decode prog_15_method_2_code 210 = .ok (.getfield 68, 3) := by decide +kernel
set_option maxRecDepth 100000 in
theorem d_State_copy_213 : decode prog_15_method_2_code 213 = .ok (.putfield 68, 3) := by decide +kernel
set_option maxRecDepth 100000 in
theorem d_State_copy_216 : decode prog_15_method_2_code 216 = .ok (.aload_n 0, 1) := by decide +kernel
set_option maxRecDepth 100000 in
theorem d_State_copy_217 : decode prog_15_method_2_code 217 = .ok (.aload_n 1, 1) := by decide +kernel
set_option maxRecDepth 100000 in
theorem d_State_copy_218 : decode prog_15_method_2_code 218 = .ok (.getfield 60, 3) := by decide +kernel
set_option maxRecDepth 100000 in
theorem d_State_copy_221 : decode prog_15_method_2_code 221 = .ok (.putfield 60, 3) := by decide +kernel
set_option maxRecDepth 100000 in
theorem d_State_copy_224 : decode prog_15_method_2_code 224 = .ok (.aload_n 0, 1) := by decide +kernel
set_option maxRecDepth 100000 in
theorem d_State_copy_225 : decode prog_15_method_2_code 225 = .ok (.aload_n 1, 1) := by decide +kernel
set_option maxRecDepth 100000 in
theorem w_1591 : (Cond.fieldLink "StowTongueModel$State" 71 "StowTongueModel$State" "functions" "I" : Cond) ∈ am_tbl := am_w 1591 (by decide +kernel) (by decide +kernel)
set_option maxRecDepth 100000 in
theorem f_State_71 : am_F "StowTongueModel$State" 71 13 10 := ⟨_, rfl, cl_13, by decide, Or.inl w_1591⟩
set_option maxRecDepth 100000 in
theorem d_State_copy_226 : decode prog_15_method_2_code 226 = .ok (.getfield 71, 3) := by decide +kernel
set_option maxRecDepth 100000 in
theorem d_State_copy_229 : decode prog_15_method_2_code 229 = .ok (.putfield 71, 3) := by decide +kernel
set_option maxRecDepth 100000 in
theorem d_State_copy_232 : decode prog_15_method_2_code 232 = .ok (.return_, 1) := by decide +kernel
set_option maxRecDepth 100000 in
theorem w_1986 : (Cond.methodLink "StowTongueModel" 448 ⟨"StowTongueModel$State", "copy", "(LStowTongueModel$State;)V"⟩ : Cond) ∈ am_tbl := am_w 1986 (by decide +kernel) (by decide +kernel)
set_option maxRecDepth 100000 in
theorem w_1989 : (Cond.code ⟨"StowTongueModel$State", "copy", "(LStowTongueModel$State;)V"⟩ prog_15_method_2_code 3 none : Cond) ∈ am_tbl := am_w 1989 rfl rfl
set_option maxRecDepth 100000 in
theorem l_Mod_448 : am_L "StowTongueModel" 448 1 m_State_copy := ⟨Or.inl w_1986, w_163, w_1989, ⟨by decide, by decide⟩, by decide +kernel, by decide⟩
set_option maxRecDepth 100000 in
theorem w_1987 : (Cond.instanceMethod ⟨"StowTongueModel$State", "copy", "(LStowTongueModel$State;)V"⟩ : Cond) ∈ am_tbl := am_w 1987 (by decide +kernel) (by decide +kernel)
set_option maxRecDepth 100000 in
theorem w_1988 : (Cond.selects "StowTongueModel$State" ⟨"StowTongueModel$State", "copy", "(LStowTongueModel$State;)V"⟩ ⟨"StowTongueModel$State", "copy", "(LStowTongueModel$State;)V"⟩ : Cond) ∈ am_tbl := am_w 1988 (by decide +kernel) (by decide +kernel)
set_option maxRecDepth 100000 in
theorem d_Mod_sync_13 : decode prog_13_method_67_code 13 = .ok (.invokevirtual 448, 3) := by decide +kernel
set_option maxRecDepth 100000 in
theorem d_Mod_sync_16 : decode prog_13_method_67_code 16 = .ok (.aload_n 0, 1) := by decide +kernel
set_option maxRecDepth 100000 in
theorem d_Mod_sync_17 : decode prog_13_method_67_code 17 = .ok (.iconst 0, 1) := by decide +kernel
set_option maxRecDepth 100000 in
theorem d_Mod_sync_18 : decode prog_13_method_67_code 18 = .ok (.putfield 409, 3) := by decide +kernel
set_option maxRecDepth 100000 in
theorem d_Mod_sync_21 : decode prog_13_method_67_code 21 = .ok (.iload_n 1, 1) := by decide +kernel
set_option maxRecDepth 100000 in
theorem d_Mod_sync_22 : decode prog_13_method_67_code 22 = .ok (.ireturn, 1) := by decide +kernel
set_option maxRecDepth 100000 in
abbrev m_Stow_root : am_M := (⟨"StowTongue", "root", "()J"⟩, prog_1_method_10_code, 11, (some FieldType.long))
set_option maxRecDepth 100000 in
theorem d_Stow_root_0 : decode prog_1_method_10_code 0 = .ok (.aload_n 0, 1) := by decide +kernel
set_option maxRecDepth 100000 in
theorem d_Stow_root_1 : decode prog_1_method_10_code 1 = .ok (.getfield 9, 3) := by decide +kernel
set_option maxRecDepth 100000 in
theorem d_Stow_root_4 : decode prog_1_method_10_code 4 = .ok (.aload_n 0, 1) := by decide +kernel
set_option maxRecDepth 100000 in
theorem w_496 : (Cond.fieldLink "StowTongue" 48 "StowTongue" "tapeSize" "I" : Cond) ∈ am_tbl := am_w 496 (by decide +kernel) (by decide +kernel)
set_option maxRecDepth 100000 in
theorem f_Stow_48 : am_F "StowTongue" 48 9 1 := ⟨_, rfl, cl_9, by decide, Or.inl w_496⟩
set_option maxRecDepth 100000 in
theorem d_Stow_root_5 : decode prog_1_method_10_code 5 = .ok (.getfield 48, 3) := by decide +kernel
set_option maxRecDepth 100000 in
abbrev m_Lexer_wholeName : am_M := (⟨"StowTongue$Lexer", "wholeName", "([BI)J"⟩, prog_4_method_11_code, 5, (some FieldType.long))
set_option maxRecDepth 100000 in
theorem d_Lexer_wholeName_0 : decode prog_4_method_11_code 0 = .ok (.iload_n 1, 1) := by decide +kernel
set_option maxRecDepth 100000 in
theorem d_Lexer_wholeName_1 : decode prog_4_method_11_code 1 = .ok (.iconst 1, 1) := by decide +kernel
set_option maxRecDepth 100000 in
theorem d_Lexer_wholeName_2 : decode prog_4_method_11_code 2 = .ok (.if_icmp .lt 24, 3) := by decide +kernel
set_option maxRecDepth 100000 in
theorem d_Lexer_wholeName_26 : decode prog_4_method_11_code 26 = .ok (.lconst 0, 1) := by decide +kernel
set_option maxRecDepth 100000 in
theorem d_Lexer_wholeName_27 : decode prog_4_method_11_code 27 = .ok (.lreturn, 1) := by decide +kernel
set_option maxRecDepth 100000 in
theorem w_1399 : (Cond.methodLink "StowTongue" 145 ⟨"StowTongue$Lexer", "wholeName", "([BI)J"⟩ : Cond) ∈ am_tbl := am_w 1399 (by decide +kernel) (by decide +kernel)
set_option maxRecDepth 100000 in
theorem w_1401 : (Cond.code ⟨"StowTongue$Lexer", "wholeName", "([BI)J"⟩ prog_4_method_11_code 5 (some FieldType.long) : Cond) ∈ am_tbl := am_w 1401 rfl rfl
set_option maxRecDepth 100000 in
theorem l_Stow_145 : am_L "StowTongue" 145 2 m_Lexer_wholeName := ⟨Or.inl w_1399, w_146, w_1401, ⟨by decide, by decide⟩, by decide +kernel, by decide⟩
set_option maxRecDepth 100000 in
theorem w_1400 : (Cond.static ⟨"StowTongue$Lexer", "wholeName", "([BI)J"⟩ : Cond) ∈ am_tbl := am_w 1400 (by decide +kernel) (by decide +kernel)
set_option maxRecDepth 100000 in
theorem d_Stow_root_8 : decode prog_1_method_10_code 8 = .ok (.invokestatic 145, 3) := by decide +kernel
set_option maxRecDepth 100000 in
theorem d_Stow_root_11 : decode prog_1_method_10_code 11 = .ok (.lstore_n 1, 1) := by decide +kernel
set_option maxRecDepth 100000 in
theorem d_Stow_root_12 : decode prog_1_method_10_code 12 = .ok (.aload_n 0, 1) := by decide +kernel
set_option maxRecDepth 100000 in
theorem d_Stow_root_13 : decode prog_1_method_10_code 13 = .ok (.iconst 0, 1) := by decide +kernel
set_option maxRecDepth 100000 in
theorem d_Stow_root_14 : decode prog_1_method_10_code 14 = .ok (.putfield 48, 3) := by decide +kernel
