abbrev m_Arr_fill_aII : am_M := (⟨"java/util/Arrays", "fill", "([II)V"⟩, prog_29_method_103_code, 4, none)
theorem d_Arr_fill_aII_5 : decode prog_29_method_103_code 5 = .ok (.iload_n 2, 1) := by decide +kernel
theorem d_Arr_fill_aII_6 : decode prog_29_method_103_code 6 = .ok (.iload_n 3, 1) := by decide +kernel
theorem d_Arr_fill_aII_7 : decode prog_29_method_103_code 7 = .ok (.if_icmp .ge 13, 3) := by decide +kernel
theorem d_Arr_fill_aII_10 : decode prog_29_method_103_code 10 = .ok (.aload_n 0, 1) := by decide +kernel
theorem d_Arr_fill_aII_11 : decode prog_29_method_103_code 11 = .ok (.iload_n 2, 1) := by decide +kernel
theorem d_Arr_fill_aII_12 : decode prog_29_method_103_code 12 = .ok (.iload_n 1, 1) := by decide +kernel
theorem d_Arr_fill_aII_13 : decode prog_29_method_103_code 13 = .ok (.iastore, 1) := by decide +kernel
theorem d_Arr_fill_aII_14 : decode prog_29_method_103_code 14 = .ok (.iinc 2 1, 3) := by decide +kernel
theorem d_Arr_fill_aII_17 : decode prog_29_method_103_code 17 = .ok (.goto (-12), 3) := by decide +kernel
theorem d_Arr_fill_aII_0 : decode prog_29_method_103_code 0 = .ok (.iconst 0, 1) := by decide +kernel
theorem d_Arr_fill_aII_1 : decode prog_29_method_103_code 1 = .ok (.istore_n 2, 1) := by decide +kernel
theorem d_Arr_fill_aII_2 : decode prog_29_method_103_code 2 = .ok (.aload_n 0, 1) := by decide +kernel
theorem d_Arr_fill_aII_3 : decode prog_29_method_103_code 3 = .ok (.arraylength, 1) := by decide +kernel
theorem d_Arr_fill_aII_4 : decode prog_29_method_103_code 4 = .ok (.istore_n 3, 1) := by decide +kernel
theorem d_Arr_fill_aII_20 : decode prog_29_method_103_code 20 = .ok (.return_, 1) := by decide +kernel
abbrev m_Arr_fill_aZZ : am_M := (⟨"java/util/Arrays", "fill", "([ZZ)V"⟩, prog_29_method_111_code, 4, none)
theorem d_Arr_fill_aZZ_5 : decode prog_29_method_111_code 5 = .ok (.iload_n 2, 1) := by decide +kernel
theorem d_Arr_fill_aZZ_6 : decode prog_29_method_111_code 6 = .ok (.iload_n 3, 1) := by decide +kernel
theorem d_Arr_fill_aZZ_7 : decode prog_29_method_111_code 7 = .ok (.if_icmp .ge 13, 3) := by decide +kernel
theorem d_Arr_fill_aZZ_10 : decode prog_29_method_111_code 10 = .ok (.aload_n 0, 1) := by decide +kernel
theorem d_Arr_fill_aZZ_11 : decode prog_29_method_111_code 11 = .ok (.iload_n 2, 1) := by decide +kernel
theorem d_Arr_fill_aZZ_12 : decode prog_29_method_111_code 12 = .ok (.iload_n 1, 1) := by decide +kernel
theorem d_Arr_fill_aZZ_13 : decode prog_29_method_111_code 13 = .ok (.bastore, 1) := by decide +kernel
theorem d_Arr_fill_aZZ_14 : decode prog_29_method_111_code 14 = .ok (.iinc 2 1, 3) := by decide +kernel
theorem d_Arr_fill_aZZ_17 : decode prog_29_method_111_code 17 = .ok (.goto (-12), 3) := by decide +kernel
theorem d_Arr_fill_aZZ_0 : decode prog_29_method_111_code 0 = .ok (.iconst 0, 1) := by decide +kernel
theorem d_Arr_fill_aZZ_1 : decode prog_29_method_111_code 1 = .ok (.istore_n 2, 1) := by decide +kernel
theorem d_Arr_fill_aZZ_2 : decode prog_29_method_111_code 2 = .ok (.aload_n 0, 1) := by decide +kernel
theorem d_Arr_fill_aZZ_3 : decode prog_29_method_111_code 3 = .ok (.arraylength, 1) := by decide +kernel
theorem d_Arr_fill_aZZ_4 : decode prog_29_method_111_code 4 = .ok (.istore_n 3, 1) := by decide +kernel
theorem d_Arr_fill_aZZ_20 : decode prog_29_method_111_code 20 = .ok (.return_, 1) := by decide +kernel
abbrev m_Store_isThere : am_M := (⟨"StowTongue$Store", "isThere", "(I)Z"⟩, prog_9_method_4_code, 2, (some FieldType.boolean))
theorem d_Store_isThere_0 : decode prog_9_method_4_code 0 = .ok (.iload_n 1, 1) := by decide +kernel
theorem d_Store_isThere_1 : decode prog_9_method_4_code 1 = .ok (.ifCond .lt 23, 3) := by decide +kernel
theorem d_Store_isThere_4 : decode prog_9_method_4_code 4 = .ok (.iload_n 1, 1) := by decide +kernel
theorem d_Store_isThere_5 : decode prog_9_method_4_code 5 = .ok (.bipush 100, 2) := by decide +kernel
theorem d_Store_isThere_7 : decode prog_9_method_4_code 7 = .ok (.if_icmp .ge 17, 3) := by decide +kernel
theorem d_Store_isThere_10 : decode prog_9_method_4_code 10 = .ok (.aload_n 0, 1) := by decide +kernel
theorem cl_10 : am_Cl ("StowTongue$Store", TC10, 9) := ⟨am_in_r [989, 991, 993, 995, 997, 999, 1001, 1003, 1005] (by decide +kernel) (by decide +kernel), by decide +kernel, by decide +kernel⟩
theorem w_976 : (Cond.fieldLink "StowTongue$Store" 16 "StowTongue$Store" "cells" "[I" : Cond) ∈ am_tbl := am_w 976 (by decide +kernel) (by decide +kernel)
theorem f_Store_16 : am_F "StowTongue$Store" 16 10 2 := ⟨_, rfl, cl_10, by decide, Or.inl w_976⟩
theorem d_Store_isThere_11 : decode prog_9_method_4_code 11 = .ok (.getfield 16, 3) := by decide +kernel
theorem d_Store_isThere_14 : decode prog_9_method_4_code 14 = .ok (.iload_n 1, 1) := by decide +kernel
theorem d_Store_isThere_15 : decode prog_9_method_4_code 15 = .ok (.iaload, 1) := by decide +kernel
theorem d_Store_isThere_16 : decode prog_9_method_4_code 16 = .ok (.iconst (-1), 1) := by decide +kernel
theorem d_Store_isThere_17 : decode prog_9_method_4_code 17 = .ok (.if_icmp .eq 7, 3) := by decide +kernel
theorem d_Store_isThere_24 : decode prog_9_method_4_code 24 = .ok (.iconst 0, 1) := by decide +kernel
theorem d_Store_isThere_25 : decode prog_9_method_4_code 25 = .ok (.ireturn, 1) := by decide +kernel
abbrev m_Store_objects : am_M := (⟨"StowTongue$Store", "objects", "()I"⟩, prog_9_method_3_code, 3, (some FieldType.int))
theorem d_Store_objects_4 : decode prog_9_method_3_code 4 = .ok (.iload_n 2, 1) := by decide +kernel
theorem d_Store_objects_5 : decode prog_9_method_3_code 5 = .ok (.bipush 100, 2) := by decide +kernel
theorem d_Store_objects_7 : decode prog_9_method_3_code 7 = .ok (.if_icmp .ge 20, 3) := by decide +kernel
theorem d_Store_objects_10 : decode prog_9_method_3_code 10 = .ok (.aload_n 0, 1) := by decide +kernel
theorem d_Store_objects_11 : decode prog_9_method_3_code 11 = .ok (.iload_n 2, 1) := by decide +kernel
theorem d_Store_objects_12 : decode prog_9_method_3_code 12 = .ok (.invokevirtual 54, 3) := by decide +kernel
theorem w_1244 : (Cond.methodLink "StowTongue$Store" 54 ⟨"StowTongue$Store", "isThere", "(I)Z"⟩ : Cond) ∈ am_tbl := am_w 1244 (by decide +kernel) (by decide +kernel)
theorem w_169 : (Cond.initialized "StowTongue$Store" : Cond) ∈ am_tbl := am_w 169 (by decide +kernel) (by decide +kernel)
theorem w_1247 : (Cond.code ⟨"StowTongue$Store", "isThere", "(I)Z"⟩ prog_9_method_4_code 2 (some FieldType.boolean) : Cond) ∈ am_tbl := am_w 1247 (by decide +kernel) (by decide +kernel)
theorem l_Store_54 : am_L "StowTongue$Store" 54 1 m_Store_isThere := ⟨Or.inl w_1244, w_169, w_1247, ⟨by decide, by decide⟩, by decide +kernel, by decide⟩
theorem w_1245 : (Cond.instanceMethod ⟨"StowTongue$Store", "isThere", "(I)Z"⟩ : Cond) ∈ am_tbl := am_w 1245 (by decide +kernel) (by decide +kernel)
theorem w_1246 : (Cond.selects "StowTongue$Store" ⟨"StowTongue$Store", "isThere", "(I)Z"⟩ ⟨"StowTongue$Store", "isThere", "(I)Z"⟩ : Cond) ∈ am_tbl := am_w 1246 (by decide +kernel) (by decide +kernel)
theorem d_Store_objects_15 : decode prog_9_method_3_code 15 = .ok (.ifCond .eq 6, 3) := by decide +kernel
theorem d_Store_objects_21 : decode prog_9_method_3_code 21 = .ok (.iinc 2 1, 3) := by decide +kernel
theorem d_Store_objects_24 : decode prog_9_method_3_code 24 = .ok (.goto (-20), 3) := by decide +kernel
theorem d_Store_objects_0 : decode prog_9_method_3_code 0 = .ok (.iconst 0, 1) := by decide +kernel
theorem d_Store_objects_1 : decode prog_9_method_3_code 1 = .ok (.istore_n 1, 1) := by decide +kernel
theorem d_Store_objects_2 : decode prog_9_method_3_code 2 = .ok (.iconst 0, 1) := by decide +kernel
theorem d_Store_objects_3 : decode prog_9_method_3_code 3 = .ok (.istore_n 2, 1) := by decide +kernel
theorem d_Store_objects_27 : decode prog_9_method_3_code 27 = .ok (.iload_n 1, 1) := by decide +kernel
theorem d_Store_objects_28 : decode prog_9_method_3_code 28 = .ok (.ireturn, 1) := by decide +kernel
abbrev m_Store_objectsChangedSince : am_M := (⟨"StowTongue$Store", "objectsChangedSince", "(LStowTongue$Store;)I"⟩, prog_9_method_23_code, 4, (some FieldType.int))
theorem d_Store_objectsChangedSince_4 : decode prog_9_method_23_code 4 = .ok (.iload_n 3, 1) := by decide +kernel
theorem d_Store_objectsChangedSince_5 : decode prog_9_method_23_code 5 = .ok (.bipush 100, 2) := by decide +kernel
theorem d_Store_objectsChangedSince_7 : decode prog_9_method_23_code 7 = .ok (.if_icmp .ge 29, 3) := by decide +kernel
theorem d_Store_objectsChangedSince_10 : decode prog_9_method_23_code 10 = .ok (.aload_n 0, 1) := by decide +kernel
theorem d_Store_objectsChangedSince_11 : decode prog_9_method_23_code 11 = .ok (.iload_n 3, 1) := by decide +kernel
theorem d_Store_objectsChangedSince_12 : decode prog_9_method_23_code 12 = .ok (.invokevirtual 54, 3) := by decide +kernel
theorem d_Store_objectsChangedSince_15 : decode prog_9_method_23_code 15 = .ok (.ifCond .eq 15, 3) := by decide +kernel
theorem d_Store_objectsChangedSince_30 : decode prog_9_method_23_code 30 = .ok (.iinc 3 1, 3) := by decide +kernel
theorem d_Store_objectsChangedSince_33 : decode prog_9_method_23_code 33 = .ok (.goto (-29), 3) := by decide +kernel
theorem d_Store_objectsChangedSince_0 : decode prog_9_method_23_code 0 = .ok (.iconst 0, 1) := by decide +kernel
theorem d_Store_objectsChangedSince_1 : decode prog_9_method_23_code 1 = .ok (.istore_n 2, 1) := by decide +kernel
theorem d_Store_objectsChangedSince_2 : decode prog_9_method_23_code 2 = .ok (.iconst 0, 1) := by decide +kernel
theorem d_Store_objectsChangedSince_3 : decode prog_9_method_23_code 3 = .ok (.istore_n 3, 1) := by decide +kernel
theorem d_Store_objectsChangedSince_36 : decode prog_9_method_23_code 36 = .ok (.iload_n 2, 1) := by decide +kernel
theorem d_Store_objectsChangedSince_37 : decode prog_9_method_23_code 37 = .ok (.ireturn, 1) := by decide +kernel
abbrev m_Sweep_takeUnreached : am_M := (⟨"StowTongue$Sweeper", "takeUnreached", "(LStowTongue$Store;)I"⟩, prog_10_method_5_code, 4, (some FieldType.int))
theorem d_Sweep_takeUnreached_4 : decode prog_10_method_5_code 4 = .ok (.iload_n 3, 1) := by decide +kernel
theorem d_Sweep_takeUnreached_5 : decode prog_10_method_5_code 5 = .ok (.bipush 100, 2) := by decide +kernel
theorem d_Sweep_takeUnreached_7 : decode prog_10_method_5_code 7 = .ok (.if_icmp .ge 34, 3) := by decide +kernel
theorem d_Sweep_takeUnreached_10 : decode prog_10_method_5_code 10 = .ok (.aload_n 0, 1) := by decide +kernel
theorem d_Sweep_takeUnreached_11 : decode prog_10_method_5_code 11 = .ok (.getfield 9, 3) := by decide +kernel
theorem d_Sweep_takeUnreached_14 : decode prog_10_method_5_code 14 = .ok (.iload_n 3, 1) := by decide +kernel
theorem d_Sweep_takeUnreached_15 : decode prog_10_method_5_code 15 = .ok (.baload, 1) := by decide +kernel
theorem d_Sweep_takeUnreached_16 : decode prog_10_method_5_code 16 = .ok (.ifCond .ne 19, 3) := by decide +kernel
theorem d_Sweep_takeUnreached_19 : decode prog_10_method_5_code 19 = .ok (.aload_n 1, 1) := by decide +kernel
theorem d_Sweep_takeUnreached_20 : decode prog_10_method_5_code 20 = .ok (.iload_n 3, 1) := by decide +kernel
theorem d_Sweep_takeUnreached_21 : decode prog_10_method_5_code 21 = .ok (.invokevirtual 67, 3) := by decide +kernel
theorem w_1456 : (Cond.methodLink "StowTongue$Sweeper" 67 ⟨"StowTongue$Store", "isThere", "(I)Z"⟩ : Cond) ∈ am_tbl := am_w 1456 (by decide +kernel) (by decide +kernel)
theorem l_Sweep_67 : am_L "StowTongue$Sweeper" 67 1 m_Store_isThere := ⟨Or.inl w_1456, w_169, w_1247, ⟨by decide, by decide⟩, by decide +kernel, by decide⟩
theorem d_Sweep_takeUnreached_24 : decode prog_10_method_5_code 24 = .ok (.ifCond .eq 11, 3) := by decide +kernel
theorem d_Sweep_takeUnreached_35 : decode prog_10_method_5_code 35 = .ok (.iinc 3 1, 3) := by decide +kernel
theorem d_Sweep_takeUnreached_38 : decode prog_10_method_5_code 38 = .ok (.goto (-34), 3) := by decide +kernel
theorem d_Sweep_takeUnreached_0 : decode prog_10_method_5_code 0 = .ok (.iconst 0, 1) := by decide +kernel
theorem d_Sweep_takeUnreached_1 : decode prog_10_method_5_code 1 = .ok (.istore_n 2, 1) := by decide +kernel
theorem d_Sweep_takeUnreached_2 : decode prog_10_method_5_code 2 = .ok (.iconst 0, 1) := by decide +kernel
theorem d_Sweep_takeUnreached_3 : decode prog_10_method_5_code 3 = .ok (.istore_n 3, 1) := by decide +kernel
theorem d_Sweep_takeUnreached_41 : decode prog_10_method_5_code 41 = .ok (.iload_n 2, 1) := by decide +kernel
theorem d_Sweep_takeUnreached_42 : decode prog_10_method_5_code 42 = .ok (.ireturn, 1) := by decide +kernel
abbrev m_Mod_sweep : am_M := (⟨"StowTongueModel", "sweep", "()I"⟩, prog_13_method_70_code, 4, (some FieldType.int))
theorem d_Mod_sweep_146 : decode prog_13_method_70_code 146 = .ok (.iload_n 2, 1) := by decide +kernel
theorem d_Mod_sweep_147 : decode prog_13_method_70_code 147 = .ok (.bipush 100, 2) := by decide +kernel
theorem d_Mod_sweep_149 : decode prog_13_method_70_code 149 = .ok (.if_icmp .ge 69, 3) := by decide +kernel
theorem d_Mod_sweep_152 : decode prog_13_method_70_code 152 = .ok (.aload_n 0, 1) := by decide +kernel
theorem d_Mod_sweep_153 : decode prog_13_method_70_code 153 = .ok (.getfield 349, 3) := by decide +kernel
theorem w_1572 : (Cond.fieldLink "StowTongueModel" 457 "StowTongueModel$State" "kind" "[I" : Cond) ∈ am_tbl := am_w 1572 (by decide +kernel) (by decide +kernel)
theorem f_Mod_457 : am_F "StowTongueModel" 457 13 0 := ⟨_, rfl, cl_13, by decide, Or.inl w_1572⟩
theorem d_Mod_sweep_156 : decode prog_13_method_70_code 156 = .ok (.getfield 457, 3) := by decide +kernel
theorem d_Mod_sweep_159 : decode prog_13_method_70_code 159 = .ok (.iload_n 2, 1) := by decide +kernel
theorem d_Mod_sweep_160 : decode prog_13_method_70_code 160 = .ok (.iaload, 1) := by decide +kernel
theorem d_Mod_sweep_161 : decode prog_13_method_70_code 161 = .ok (.ifCond .eq 51, 3) := by decide +kernel
theorem d_Mod_sweep_212 : decode prog_13_method_70_code 212 = .ok (.iinc 2 1, 3) := by decide +kernel
theorem d_Mod_sweep_215 : decode prog_13_method_70_code 215 = .ok (.goto (-69), 3) := by decide +kernel
abbrev m_Mod_run : am_M := (⟨"StowTongueModel", "run", "(I)I"⟩, prog_13_method_42_code, 6, (some FieldType.int))
theorem d_Mod_run_105 : decode prog_13_method_42_code 105 = .ok (.iload 4, 2) := by decide +kernel
theorem d_Mod_run_107 : decode prog_13_method_42_code 107 = .ok (.bipush 100, 2) := by decide +kernel
theorem d_Mod_run_109 : decode prog_13_method_42_code 109 = .ok (.if_icmp .ge 54, 3) := by decide +kernel
theorem d_Mod_run_112 : decode prog_13_method_42_code 112 = .ok (.aload_n 0, 1) := by decide +kernel
theorem d_Mod_run_113 : decode prog_13_method_42_code 113 = .ok (.getfield 353, 3) := by decide +kernel
theorem d_Mod_run_116 : decode prog_13_method_42_code 116 = .ok (.getfield 457, 3) := by decide +kernel
theorem d_Mod_run_119 : decode prog_13_method_42_code 119 = .ok (.iload 4, 2) := by decide +kernel
theorem d_Mod_run_121 : decode prog_13_method_42_code 121 = .ok (.iaload, 1) := by decide +kernel
theorem d_Mod_run_122 : decode prog_13_method_42_code 122 = .ok (.ifCond .eq 35, 3) := by decide +kernel
theorem d_Mod_run_157 : decode prog_13_method_42_code 157 = .ok (.iinc 4 1, 3) := by decide +kernel
theorem d_Mod_run_160 : decode prog_13_method_42_code 160 = .ok (.goto (-55), 3) := by decide +kernel
abbrev m_Sweep_clean : am_M := (⟨"StowTongue$Sweeper", "clean", "(LStowTongue$Store;)I"⟩, prog_10_method_2_code, 3, (some FieldType.int))
theorem d_Sweep_clean_2 : decode prog_10_method_2_code 2 = .ok (.iload_n 2, 1) := by decide +kernel
theorem d_Sweep_clean_3 : decode prog_10_method_2_code 3 = .ok (.bipush 100, 2) := by decide +kernel
theorem d_Sweep_clean_5 : decode prog_10_method_2_code 5 = .ok (.if_icmp .ge 16, 3) := by decide +kernel
theorem d_Sweep_clean_8 : decode prog_10_method_2_code 8 = .ok (.aload_n 0, 1) := by decide +kernel
theorem d_Sweep_clean_9 : decode prog_10_method_2_code 9 = .ok (.getfield 9, 3) := by decide +kernel
theorem d_Sweep_clean_12 : decode prog_10_method_2_code 12 = .ok (.iload_n 2, 1) := by decide +kernel
theorem d_Sweep_clean_13 : decode prog_10_method_2_code 13 = .ok (.iconst 0, 1) := by decide +kernel
theorem d_Sweep_clean_14 : decode prog_10_method_2_code 14 = .ok (.bastore, 1) := by decide +kernel
theorem d_Sweep_clean_15 : decode prog_10_method_2_code 15 = .ok (.iinc 2 1, 3) := by decide +kernel
theorem d_Sweep_clean_18 : decode prog_10_method_2_code 18 = .ok (.goto (-16), 3) := by decide +kernel
abbrev m_Stow_value : am_M := (⟨"StowTongue", "value", "()J"⟩, prog_1_method_7_code, 1, (some FieldType.long))
theorem d_Stow_value_0 : decode prog_1_method_7_code 0 = .ok (.aload_n 0, 1) := by decide +kernel
theorem w_502 : (Cond.fieldLink "StowTongue" 93 "StowTongue" "valueHead" "J" : Cond) ∈ am_tbl := am_w 502 (by decide +kernel) (by decide +kernel)
theorem f_Stow_93 : am_F "StowTongue" 93 9 7 := ⟨_, rfl, cl_9, by decide, Or.inl w_502⟩
theorem d_Stow_value_1 : decode prog_1_method_7_code 1 = .ok (.getfield 93, 3) := by decide +kernel
abbrev m_Cell_sortOf : am_M := (⟨"StowTongue$Cell", "sortOf", "(J)I"⟩, prog_2_method_3_code, 2, (some FieldType.int))
theorem d_Cell_sortOf_0 : decode prog_2_method_3_code 0 = .ok (.lload_n 0, 1) := by decide +kernel
theorem d_Cell_sortOf_1 : decode prog_2_method_3_code 1 = .ok (.bipush 56, 2) := by decide +kernel
theorem d_Cell_sortOf_3 : decode prog_2_method_3_code 3 = .ok (.lushr, 1) := by decide +kernel
theorem d_Cell_sortOf_4 : decode prog_2_method_3_code 4 = .ok (.l2i, 1) := by decide +kernel
theorem d_Cell_sortOf_5 : decode prog_2_method_3_code 5 = .ok (.ireturn, 1) := by decide +kernel
theorem w_1374 : (Cond.methodLink "StowTongue" 116 ⟨"StowTongue$Cell", "sortOf", "(J)I"⟩ : Cond) ∈ am_tbl := am_w 1374 (by decide +kernel) (by decide +kernel)
theorem w_1105 : (Cond.code ⟨"StowTongue$Cell", "sortOf", "(J)I"⟩ prog_2_method_3_code 2 (some FieldType.int) : Cond) ∈ am_tbl := am_w 1105 (by decide +kernel) (by decide +kernel)
theorem l_Stow_116 : am_L "StowTongue" 116 1 m_Cell_sortOf := ⟨Or.inl w_1374, w_151, w_1105, ⟨by decide, by decide⟩, by decide +kernel, by decide⟩
theorem w_1104 : (Cond.static ⟨"StowTongue$Cell", "sortOf", "(J)I"⟩ : Cond) ∈ am_tbl := am_w 1104 (by decide +kernel) (by decide +kernel)
theorem d_Stow_value_4 : decode prog_1_method_7_code 4 = .ok (.invokestatic 116, 3) := by decide +kernel
theorem d_Stow_value_7 : decode prog_1_method_7_code 7 = .ok (.iconst 2, 1) := by decide +kernel
theorem d_Stow_value_8 : decode prog_1_method_7_code 8 = .ok (.if_icmp .ne 25, 3) := by decide +kernel
theorem d_Stow_value_33 : decode prog_1_method_7_code 33 = .ok (.aload_n 0, 1) := by decide +kernel
theorem d_Stow_value_34 : decode prog_1_method_7_code 34 = .ok (.getfield 93, 3) := by decide +kernel
theorem d_Stow_value_37 : decode prog_1_method_7_code 37 = .ok (.aload_n 0, 1) := by decide +kernel
theorem w_503 : (Cond.fieldLink "StowTongue" 100 "StowTongue" "valueTail" "J" : Cond) ∈ am_tbl := am_w 503 (by decide +kernel) (by decide +kernel)
theorem f_Stow_100 : am_F "StowTongue" 100 9 8 := ⟨_, rfl, cl_9, by decide, Or.inl w_503⟩
theorem d_Stow_value_38 : decode prog_1_method_7_code 38 = .ok (.getfield 100, 3) := by decide +kernel
abbrev m_Stow_asAnswer : am_M := (⟨"StowTongue", "asAnswer", "(JJ)J"⟩, prog_1_method_8_code, 4, (some FieldType.long))
theorem d_Stow_asAnswer_0 : decode prog_1_method_8_code 0 = .ok (.lload_n 0, 1) := by decide +kernel
theorem d_Stow_asAnswer_1 : decode prog_1_method_8_code 1 = .ok (.invokestatic 116, 3) := by decide +kernel
theorem d_Stow_asAnswer_4 : decode prog_1_method_8_code 4 = .ok (.tableswitch 46 1 4 #[32, 34, 38, 42], 32) := by decide +kernel
theorem d_Stow_asAnswer_50 : decode prog_1_method_8_code 50 = .ok (.ldc2_w 136, 3) := by decide +kernel
theorem w_1382 : (Cond.constantLong "StowTongue" 136 1099511627776 : Cond) ∈ am_tbl := am_w 1382 (by decide +kernel) (by decide +kernel)
theorem d_Stow_asAnswer_53 : decode prog_1_method_8_code 53 = .ok (.lreturn, 1) := by decide +kernel
theorem w_1376 : (Cond.methodLink "StowTongue" 126 ⟨"StowTongue", "asAnswer", "(JJ)J"⟩ : Cond) ∈ am_tbl := am_w 1376 (by decide +kernel) (by decide +kernel)
theorem w_143 : (Cond.initialized "StowTongue" : Cond) ∈ am_tbl := am_w 143 (by decide +kernel) (by decide +kernel)
theorem w_1378 : (Cond.code ⟨"StowTongue", "asAnswer", "(JJ)J"⟩ prog_1_method_8_code 4 (some FieldType.long) : Cond) ∈ am_tbl := am_w 1378 (by decide +kernel) (by decide +kernel)
theorem l_Stow_126 : am_L "StowTongue" 126 2 m_Stow_asAnswer := ⟨Or.inl w_1376, w_143, w_1378, ⟨by decide, by decide⟩, by decide +kernel, by decide⟩
theorem w_1377 : (Cond.static ⟨"StowTongue", "asAnswer", "(JJ)J"⟩ : Cond) ∈ am_tbl := am_w 1377 (by decide +kernel) (by decide +kernel)
theorem d_Stow_value_41 : decode prog_1_method_7_code 41 = .ok (.invokestatic 126, 3) := by decide +kernel
theorem d_Stow_value_44 : decode prog_1_method_7_code 44 = .ok (.lreturn, 1) := by decide +kernel
abbrev m_Mod_value_ : am_M := (⟨"StowTongueModel", "value", "()J"⟩, prog_13_method_71_code, 2, (some FieldType.long))
theorem d_Mod_value__0 : decode prog_13_method_71_code 0 = .ok (.aload_n 0, 1) := by decide +kernel
theorem d_Mod_value__1 : decode prog_13_method_71_code 1 = .ok (.getfield 374, 3) := by decide +kernel
theorem w_1503 : (Cond.fieldLink "StowTongueModel" 515 "StowTongueModel$Values" "kind" "[I" : Cond) ∈ am_tbl := am_w 1503 (by decide +kernel) (by decide +kernel)
theorem f_Mod_515 : am_F "StowTongueModel" 515 11 0 := ⟨_, rfl, cl_11, by decide, Or.inl w_1503⟩
theorem d_Mod_value__4 : decode prog_13_method_71_code 4 = .ok (.getfield 515, 3) := by decide +kernel
theorem d_Mod_value__7 : decode prog_13_method_71_code 7 = .ok (.iconst 0, 1) := by decide +kernel
theorem d_Mod_value__8 : decode prog_13_method_71_code 8 = .ok (.iaload, 1) := by decide +kernel
theorem d_Mod_value__9 : decode prog_13_method_71_code 9 = .ok (.tableswitch 93 0 3 #[31, 35, 45, 89], 31) := by decide +kernel
theorem d_Mod_value__40 : decode prog_13_method_71_code 40 = .ok (.ldc2_w 50, 3) := by decide +kernel
theorem w_1823 : (Cond.constantLong "StowTongueModel" 50 1099511627776 : Cond) ∈ am_tbl := am_w 1823 (by decide +kernel) (by decide +kernel)
theorem d_Mod_value__43 : decode prog_13_method_71_code 43 = .ok (.lreturn, 1) := by decide +kernel
abbrev m_Stow_sync : am_M := (⟨"StowTongue", "sync", "()I"⟩, prog_1_method_11_code, 2, (some FieldType.int))
theorem d_Stow_sync_0 : decode prog_1_method_11_code 0 = .ok (.aload_n 0, 1) := by decide +kernel
theorem d_Stow_sync_1 : decode prog_1_method_11_code 1 = .ok (.getfield 37, 3) := by decide +kernel
abbrev m_Log_waiting : am_M := (⟨"StowTongue$Log", "waiting", "()I"⟩, prog_5_method_11_code, 1, (some FieldType.int))
theorem d_Log_waiting_0 : decode prog_5_method_11_code 0 = .ok (.aload_n 0, 1) := by decide +kernel
theorem w_467 : (Cond.fieldLink "StowTongue$Log" 27 "StowTongue$Log" "waiting" "I" : Cond) ∈ am_tbl := am_w 467 (by decide +kernel) (by decide +kernel)
theorem f_Log_27 : am_F "StowTongue$Log" 27 7 2 := ⟨_, rfl, cl_7, by decide, Or.inl w_467⟩
theorem d_Log_waiting_1 : decode prog_5_method_11_code 1 = .ok (.getfield 27, 3) := by decide +kernel
theorem d_Log_waiting_4 : decode prog_5_method_11_code 4 = .ok (.ireturn, 1) := by decide +kernel
theorem w_1409 : (Cond.methodLink "StowTongue" 169 ⟨"StowTongue$Log", "waiting", "()I"⟩ : Cond) ∈ am_tbl := am_w 1409 (by decide +kernel) (by decide +kernel)
theorem w_1412 : (Cond.code ⟨"StowTongue$Log", "waiting", "()I"⟩ prog_5_method_11_code 1 (some FieldType.int) : Cond) ∈ am_tbl := am_w 1412 (by decide +kernel) (by decide +kernel)
theorem l_Stow_169 : am_L "StowTongue" 169 0 m_Log_waiting := ⟨Or.inl w_1409, w_158, w_1412, ⟨by decide, by decide⟩, by decide +kernel, by decide⟩
theorem w_1410 : (Cond.instanceMethod ⟨"StowTongue$Log", "waiting", "()I"⟩ : Cond) ∈ am_tbl := am_w 1410 (by decide +kernel) (by decide +kernel)
theorem w_1411 : (Cond.selects "StowTongue$Log" ⟨"StowTongue$Log", "waiting", "()I"⟩ ⟨"StowTongue$Log", "waiting", "()I"⟩ : Cond) ∈ am_tbl := am_w 1411 (by decide +kernel) (by decide +kernel)
theorem d_Stow_sync_4 : decode prog_1_method_11_code 4 = .ok (.invokevirtual 169, 3) := by decide +kernel
theorem d_Stow_sync_7 : decode prog_1_method_11_code 7 = .ok (.istore_n 1, 1) := by decide +kernel
theorem d_Stow_sync_8 : decode prog_1_method_11_code 8 = .ok (.aload_n 0, 1) := by decide +kernel
theorem d_Stow_sync_9 : decode prog_1_method_11_code 9 = .ok (.getfield 37, 3) := by decide +kernel
theorem d_Stow_sync_12 : decode prog_1_method_11_code 12 = .ok (.iload_n 1, 1) := by decide +kernel
abbrev m_Log_settle : am_M := (⟨"StowTongue$Log", "settle", "(I)V"⟩, prog_5_method_7_code, 3, none)
theorem d_Log_settle_0 : decode prog_5_method_7_code 0 = .ok (.iconst 0, 1) := by decide +kernel
theorem d_Log_settle_1 : decode prog_5_method_7_code 1 = .ok (.istore_n 2, 1) := by decide +kernel
theorem d_Log_settle_2 : decode prog_5_method_7_code 2 = .ok (.iload_n 2, 1) := by decide +kernel
theorem d_Log_settle_3 : decode prog_5_method_7_code 3 = .ok (.iload_n 1, 1) := by decide +kernel
theorem d_Log_settle_4 : decode prog_5_method_7_code 4 = .ok (.if_icmp .ge 20, 3) := by decide +kernel
theorem d_Log_settle_24 : decode prog_5_method_7_code 24 = .ok (.return_, 1) := by decide +kernel
theorem w_1413 : (Cond.methodLink "StowTongue" 172 ⟨"StowTongue$Log", "settle", "(I)V"⟩ : Cond) ∈ am_tbl := am_w 1413 (by decide +kernel) (by decide +kernel)
theorem w_1365 : (Cond.code ⟨"StowTongue$Log", "settle", "(I)V"⟩ prog_5_method_7_code 3 none : Cond) ∈ am_tbl := am_w 1365 (by decide +kernel) (by decide +kernel)
theorem l_Stow_172 : am_L "StowTongue" 172 1 m_Log_settle := ⟨Or.inl w_1413, w_158, w_1365, ⟨by decide, by decide⟩, by decide +kernel, by decide⟩
theorem w_1363 : (Cond.instanceMethod ⟨"StowTongue$Log", "settle", "(I)V"⟩ : Cond) ∈ am_tbl := am_w 1363 (by decide +kernel) (by decide +kernel)
theorem w_1364 : (Cond.selects "StowTongue$Log" ⟨"StowTongue$Log", "settle", "(I)V"⟩ ⟨"StowTongue$Log", "settle", "(I)V"⟩ : Cond) ∈ am_tbl := am_w 1364 (by decide +kernel) (by decide +kernel)
theorem d_Stow_sync_13 : decode prog_1_method_11_code 13 = .ok (.invokevirtual 172, 3) := by decide +kernel
theorem d_Stow_sync_16 : decode prog_1_method_11_code 16 = .ok (.iload_n 1, 1) := by decide +kernel
theorem d_Stow_sync_17 : decode prog_1_method_11_code 17 = .ok (.ireturn, 1) := by decide +kernel
abbrev m_Mod_sync : am_M := (⟨"StowTongueModel", "sync", "()I"⟩, prog_13_method_67_code, 2, (some FieldType.int))
theorem d_Mod_sync_0 : decode prog_13_method_67_code 0 = .ok (.aload_n 0, 1) := by decide +kernel
theorem w_1656 : (Cond.fieldLink "StowTongueModel" 409 "StowTongueModel" "waits" "I" : Cond) ∈ am_tbl := am_w 1656 (by decide +kernel) (by decide +kernel)
theorem f_Mod_409 : am_F "StowTongueModel" 409 14 34 := ⟨_, rfl, cl_14, by decide, Or.inl w_1656⟩
theorem d_Mod_sync_1 : decode prog_13_method_67_code 1 = .ok (.getfield 409, 3) := by decide +kernel
theorem d_Mod_sync_4 : decode prog_13_method_67_code 4 = .ok (.istore_n 1, 1) := by decide +kernel
theorem d_Mod_sync_5 : decode prog_13_method_67_code 5 = .ok (.aload_n 0, 1) := by decide +kernel
theorem d_Mod_sync_6 : decode prog_13_method_67_code 6 = .ok (.getfield 356, 3) := by decide +kernel
theorem d_Mod_sync_9 : decode prog_13_method_67_code 9 = .ok (.aload_n 0, 1) := by decide +kernel
theorem d_Mod_sync_10 : decode prog_13_method_67_code 10 = .ok (.getfield 349, 3) := by decide +kernel
abbrev m_State_copy : am_M := (⟨"StowTongueModel$State", "copy", "(LStowTongueModel$State;)V"⟩, prog_15_method_2_code, 3, none)
theorem d_State_copy_0 : decode prog_15_method_2_code 0 = .ok (.aload_n 1, 1) := by decide +kernel
theorem d_State_copy_1 : decode prog_15_method_2_code 1 = .ok (.getfield 9, 3) := by decide +kernel
theorem d_State_copy_4 : decode prog_15_method_2_code 4 = .ok (.iconst 0, 1) := by decide +kernel
theorem d_State_copy_5 : decode prog_15_method_2_code 5 = .ok (.aload_n 0, 1) := by decide +kernel
theorem d_State_copy_6 : decode prog_15_method_2_code 6 = .ok (.getfield 9, 3) := by decide +kernel
theorem d_State_copy_9 : decode prog_15_method_2_code 9 = .ok (.iconst 0, 1) := by decide +kernel
theorem d_State_copy_10 : decode prog_15_method_2_code 10 = .ok (.bipush 100, 2) := by decide +kernel
theorem w_1990 : (Cond.methodLink "StowTongueModel$State" 46 ⟨"java/lang/System", "arraycopy", "(Ljava/lang/Object;ILjava/lang/Object;II)V"⟩ : Cond) ∈ am_tbl := am_w 1990 (by decide +kernel) (by decide +kernel)
theorem w_735 : (Cond.native ⟨"java/lang/System", "arraycopy", "(Ljava/lang/Object;ILjava/lang/Object;II)V"⟩ : Cond) ∈ am_tbl := am_w 735 (by decide +kernel) (by decide +kernel)
theorem w_734 : (Cond.static ⟨"java/lang/System", "arraycopy", "(Ljava/lang/Object;ILjava/lang/Object;II)V"⟩ : Cond) ∈ am_tbl := am_w 734 (by decide +kernel) (by decide +kernel)
theorem w_167 : (Cond.initialized "java/lang/System" : Cond) ∈ am_tbl := am_w 167 (by decide +kernel) (by decide +kernel)
theorem d_State_copy_12 : decode prog_15_method_2_code 12 = .ok (.invokestatic 46, 3) := by decide +kernel
theorem d_State_copy_15 : decode prog_15_method_2_code 15 = .ok (.aload_n 1, 1) := by decide +kernel
theorem d_State_copy_16 : decode prog_15_method_2_code 16 = .ok (.getfield 15, 3) := by decide +kernel
theorem d_State_copy_19 : decode prog_15_method_2_code 19 = .ok (.iconst 0, 1) := by decide +kernel
theorem d_State_copy_20 : decode prog_15_method_2_code 20 = .ok (.aload_n 0, 1) := by decide +kernel
theorem d_State_copy_21 : decode prog_15_method_2_code 21 = .ok (.getfield 15, 3) := by decide +kernel
theorem d_State_copy_24 : decode prog_15_method_2_code 24 = .ok (.iconst 0, 1) := by decide +kernel
theorem d_State_copy_25 : decode prog_15_method_2_code 25 = .ok (.bipush 100, 2) := by decide +kernel
theorem d_State_copy_27 : decode prog_15_method_2_code 27 = .ok (.invokestatic 46, 3) := by decide +kernel
theorem d_State_copy_30 : decode prog_15_method_2_code 30 = .ok (.aload_n 1, 1) := by decide +kernel
theorem d_State_copy_31 : decode prog_15_method_2_code 31 = .ok (.getfield 18, 3) := by decide +kernel
theorem d_State_copy_34 : decode prog_15_method_2_code 34 = .ok (.iconst 0, 1) := by decide +kernel
theorem d_State_copy_35 : decode prog_15_method_2_code 35 = .ok (.aload_n 0, 1) := by decide +kernel
theorem d_State_copy_36 : decode prog_15_method_2_code 36 = .ok (.getfield 18, 3) := by decide +kernel
theorem d_State_copy_39 : decode prog_15_method_2_code 39 = .ok (.iconst 0, 1) := by decide +kernel
theorem d_State_copy_40 : decode prog_15_method_2_code 40 = .ok (.sipush 800, 3) := by decide +kernel
theorem d_State_copy_43 : decode prog_15_method_2_code 43 = .ok (.invokestatic 46, 3) := by decide +kernel
theorem d_State_copy_46 : decode prog_15_method_2_code 46 = .ok (.aload_n 1, 1) := by decide +kernel
theorem d_State_copy_47 : decode prog_15_method_2_code 47 = .ok (.getfield 33, 3) := by decide +kernel
theorem w_1502 : (Cond.fieldLink "StowTongueModel$State" 52 "StowTongueModel$Values" "kind" "[I" : Cond) ∈ am_tbl := am_w 1502 (by decide +kernel) (by decide +kernel)
theorem f_State_52 : am_F "StowTongueModel$State" 52 11 0 := ⟨_, rfl, cl_11, by decide, Or.inl w_1502⟩
theorem d_State_copy_50 : decode prog_15_method_2_code 50 = .ok (.getfield 52, 3) := by decide +kernel
theorem d_State_copy_53 : decode prog_15_method_2_code 53 = .ok (.iconst 0, 1) := by decide +kernel
theorem d_State_copy_54 : decode prog_15_method_2_code 54 = .ok (.aload_n 0, 1) := by decide +kernel
theorem d_State_copy_55 : decode prog_15_method_2_code 55 = .ok (.getfield 33, 3) := by decide +kernel
theorem d_State_copy_58 : decode prog_15_method_2_code 58 = .ok (.getfield 52, 3) := by decide +kernel
theorem d_State_copy_61 : decode prog_15_method_2_code 61 = .ok (.iconst 0, 1) := by decide +kernel
theorem d_State_copy_62 : decode prog_15_method_2_code 62 = .ok (.sipush 2000, 3) := by decide +kernel
theorem d_State_copy_65 : decode prog_15_method_2_code 65 = .ok (.invokestatic 46, 3) := by decide +kernel
theorem d_State_copy_68 : decode prog_15_method_2_code 68 = .ok (.aload_n 1, 1) := by decide +kernel
theorem d_State_copy_69 : decode prog_15_method_2_code 69 = .ok (.getfield 33, 3) := by decide +kernel
theorem w_1505 : (Cond.fieldLink "StowTongueModel$State" 53 "StowTongueModel$Values" "size" "[I" : Cond) ∈ am_tbl := am_w 1505 (by decide +kernel) (by decide +kernel)
theorem f_State_53 : am_F "StowTongueModel$State" 53 11 1 := ⟨_, rfl, cl_11, by decide, Or.inl w_1505⟩
theorem d_State_copy_72 : decode prog_15_method_2_code 72 = .ok (.getfield 53, 3) := by decide +kernel
theorem d_State_copy_75 : decode prog_15_method_2_code 75 = .ok (.iconst 0, 1) := by decide +kernel
theorem d_State_copy_76 : decode prog_15_method_2_code 76 = .ok (.aload_n 0, 1) := by decide +kernel
theorem d_State_copy_77 : decode prog_15_method_2_code 77 = .ok (.getfield 33, 3) := by decide +kernel
theorem d_State_copy_80 : decode prog_15_method_2_code 80 = .ok (.getfield 53, 3) := by decide +kernel
theorem d_State_copy_83 : decode prog_15_method_2_code 83 = .ok (.iconst 0, 1) := by decide +kernel
theorem d_State_copy_84 : decode prog_15_method_2_code 84 = .ok (.sipush 2000, 3) := by decide +kernel
theorem d_State_copy_87 : decode prog_15_method_2_code 87 = .ok (.invokestatic 46, 3) := by decide +kernel
theorem d_State_copy_90 : decode prog_15_method_2_code 90 = .ok (.aload_n 1, 1) := by decide +kernel
theorem d_State_copy_91 : decode prog_15_method_2_code 91 = .ok (.getfield 33, 3) := by decide +kernel
theorem w_1508 : (Cond.fieldLink "StowTongueModel$State" 54 "StowTongueModel$Values" "one" "[J" : Cond) ∈ am_tbl := am_w 1508 (by decide +kernel) (by decide +kernel)
theorem f_State_54 : am_F "StowTongueModel$State" 54 11 2 := ⟨_, rfl, cl_11, by decide, Or.inl w_1508⟩
theorem d_State_copy_94 : decode prog_15_method_2_code 94 = .ok (.getfield 54, 3) := by decide +kernel
theorem d_State_copy_97 : decode prog_15_method_2_code 97 = .ok (.iconst 0, 1) := by decide +kernel
theorem d_State_copy_98 : decode prog_15_method_2_code 98 = .ok (.aload_n 0, 1) := by decide +kernel
theorem d_State_copy_99 : decode prog_15_method_2_code 99 = .ok (.getfield 33, 3) := by decide +kernel
theorem d_State_copy_102 : decode prog_15_method_2_code 102 = .ok (.getfield 54, 3) := by decide +kernel
theorem d_State_copy_105 : decode prog_15_method_2_code 105 = .ok (.iconst 0, 1) := by decide +kernel
theorem d_State_copy_106 : decode prog_15_method_2_code 106 = .ok (.sipush 2000, 3) := by decide +kernel
theorem d_State_copy_109 : decode prog_15_method_2_code 109 = .ok (.invokestatic 46, 3) := by decide +kernel
theorem d_State_copy_112 : decode prog_15_method_2_code 112 = .ok (.aload_n 1, 1) := by decide +kernel
theorem d_State_copy_113 : decode prog_15_method_2_code 113 = .ok (.getfield 33, 3) := by decide +kernel
theorem w_1511 : (Cond.fieldLink "StowTongueModel$State" 57 "StowTongueModel$Values" "two" "[J" : Cond) ∈ am_tbl := am_w 1511 (by decide +kernel) (by decide +kernel)
theorem f_State_57 : am_F "StowTongueModel$State" 57 11 3 := ⟨_, rfl, cl_11, by decide, Or.inl w_1511⟩
theorem d_State_copy_116 : decode prog_15_method_2_code 116 = .ok (.getfield 57, 3) := by decide +kernel
theorem d_State_copy_119 : decode prog_15_method_2_code 119 = .ok (.iconst 0, 1) := by decide +kernel
theorem d_State_copy_120 : decode prog_15_method_2_code 120 = .ok (.aload_n 0, 1) := by decide +kernel
theorem d_State_copy_121 : decode prog_15_method_2_code 121 = .ok (.getfield 33, 3) := by decide +kernel
theorem d_State_copy_124 : decode prog_15_method_2_code 124 = .ok (.getfield 57, 3) := by decide +kernel
theorem d_State_copy_127 : decode prog_15_method_2_code 127 = .ok (.iconst 0, 1) := by decide +kernel
theorem d_State_copy_128 : decode prog_15_method_2_code 128 = .ok (.sipush 2000, 3) := by decide +kernel
theorem d_State_copy_131 : decode prog_15_method_2_code 131 = .ok (.invokestatic 46, 3) := by decide +kernel
theorem d_State_copy_134 : decode prog_15_method_2_code 134 = .ok (.aload_n 1, 1) := by decide +kernel
theorem d_State_copy_135 : decode prog_15_method_2_code 135 = .ok (.getfield 22, 3) := by decide +kernel
theorem d_State_copy_138 : decode prog_15_method_2_code 138 = .ok (.iconst 0, 1) := by decide +kernel
theorem d_State_copy_139 : decode prog_15_method_2_code 139 = .ok (.aload_n 0, 1) := by decide +kernel
theorem d_State_copy_140 : decode prog_15_method_2_code 140 = .ok (.getfield 22, 3) := by decide +kernel
theorem d_State_copy_143 : decode prog_15_method_2_code 143 = .ok (.iconst 0, 1) := by decide +kernel
theorem d_State_copy_144 : decode prog_15_method_2_code 144 = .ok (.bipush 12, 2) := by decide +kernel
theorem d_State_copy_146 : decode prog_15_method_2_code 146 = .ok (.invokestatic 46, 3) := by decide +kernel
theorem d_State_copy_149 : decode prog_15_method_2_code 149 = .ok (.iconst 0, 1) := by decide +kernel
theorem d_State_copy_150 : decode prog_15_method_2_code 150 = .ok (.istore_n 2, 1) := by decide +kernel
theorem d_State_copy_151 : decode prog_15_method_2_code 151 = .ok (.iload_n 2, 1) := by decide +kernel
theorem d_State_copy_152 : decode prog_15_method_2_code 152 = .ok (.aload_n 1, 1) := by decide +kernel
theorem w_1589 : (Cond.fieldLink "StowTongueModel$State" 60 "StowTongueModel$State" "roots" "I" : Cond) ∈ am_tbl := am_w 1589 (by decide +kernel) (by decide +kernel)
theorem f_State_60 : am_F "StowTongueModel$State" 60 13 9 := ⟨_, rfl, cl_13, by decide, Or.inl w_1589⟩
theorem d_State_copy_153 : decode prog_15_method_2_code 153 = .ok (.getfield 60, 3) := by decide +kernel
theorem d_State_copy_156 : decode prog_15_method_2_code 156 = .ok (.if_icmp .ge 22, 3) := by decide +kernel
theorem d_State_copy_178 : decode prog_15_method_2_code 178 = .ok (.aload_n 1, 1) := by decide +kernel
theorem d_State_copy_179 : decode prog_15_method_2_code 179 = .ok (.getfield 25, 3) := by decide +kernel
theorem d_State_copy_182 : decode prog_15_method_2_code 182 = .ok (.iconst 0, 1) := by decide +kernel
theorem d_State_copy_183 : decode prog_15_method_2_code 183 = .ok (.aload_n 0, 1) := by decide +kernel
theorem d_State_copy_184 : decode prog_15_method_2_code 184 = .ok (.getfield 25, 3) := by decide +kernel
theorem d_State_copy_187 : decode prog_15_method_2_code 187 = .ok (.iconst 0, 1) := by decide +kernel
theorem d_State_copy_188 : decode prog_15_method_2_code 188 = .ok (.bipush 10, 2) := by decide +kernel
theorem d_State_copy_190 : decode prog_15_method_2_code 190 = .ok (.invokestatic 46, 3) := by decide +kernel
theorem d_State_copy_193 : decode prog_15_method_2_code 193 = .ok (.aload_n 1, 1) := by decide +kernel
theorem d_State_copy_194 : decode prog_15_method_2_code 194 = .ok (.getfield 42, 3) := by decide +kernel
theorem d_State_copy_197 : decode prog_15_method_2_code 197 = .ok (.iconst 0, 1) := by decide +kernel
theorem d_State_copy_198 : decode prog_15_method_2_code 198 = .ok (.aload_n 0, 1) := by decide +kernel
theorem d_State_copy_199 : decode prog_15_method_2_code 199 = .ok (.getfield 42, 3) := by decide +kernel
theorem d_State_copy_202 : decode prog_15_method_2_code 202 = .ok (.iconst 0, 1) := by decide +kernel
theorem d_State_copy_203 : decode prog_15_method_2_code 203 = .ok (.bipush 10, 2) := by decide +kernel
theorem d_State_copy_205 : decode prog_15_method_2_code 205 = .ok (.invokestatic 46, 3) := by decide +kernel
theorem d_State_copy_208 : decode prog_15_method_2_code 208 = .ok (.aload_n 0, 1) := by decide +kernel
theorem d_State_copy_209 : decode prog_15_method_2_code 209 = .ok (.aload_n 1, 1) := by decide +kernel
theorem w_1587 : (Cond.fieldLink "StowTongueModel$State" 68 "StowTongueModel$State" "objects" "I" : Cond) ∈ am_tbl := am_w 1587 (by decide +kernel) (by decide +kernel)
theorem f_State_68 : am_F "StowTongueModel$State" 68 13 8 := ⟨_, rfl, cl_13, by decide, Or.inl w_1587⟩
theorem d_State_copy_210 : decode prog_15_method_2_code 210 = .ok (.getfield 68, 3) := by decide +kernel
theorem d_State_copy_213 : decode prog_15_method_2_code 213 = .ok (.putfield 68, 3) := by decide +kernel
theorem d_State_copy_216 : decode prog_15_method_2_code 216 = .ok (.aload_n 0, 1) := by decide +kernel
theorem d_State_copy_217 : decode prog_15_method_2_code 217 = .ok (.aload_n 1, 1) := by decide +kernel
theorem d_State_copy_218 : decode prog_15_method_2_code 218 = .ok (.getfield 60, 3) := by decide +kernel
theorem d_State_copy_221 : decode prog_15_method_2_code 221 = .ok (.putfield 60, 3) := by decide +kernel
theorem d_State_copy_224 : decode prog_15_method_2_code 224 = .ok (.aload_n 0, 1) := by decide +kernel
theorem d_State_copy_225 : decode prog_15_method_2_code 225 = .ok (.aload_n 1, 1) := by decide +kernel
theorem w_1591 : (Cond.fieldLink "StowTongueModel$State" 71 "StowTongueModel$State" "functions" "I" : Cond) ∈ am_tbl := am_w 1591 (by decide +kernel) (by decide +kernel)
theorem f_State_71 : am_F "StowTongueModel$State" 71 13 10 := ⟨_, rfl, cl_13, by decide, Or.inl w_1591⟩
theorem d_State_copy_226 : decode prog_15_method_2_code 226 = .ok (.getfield 71, 3) := by decide +kernel
theorem d_State_copy_229 : decode prog_15_method_2_code 229 = .ok (.putfield 71, 3) := by decide +kernel
theorem d_State_copy_232 : decode prog_15_method_2_code 232 = .ok (.return_, 1) := by decide +kernel
theorem w_1986 : (Cond.methodLink "StowTongueModel" 448 ⟨"StowTongueModel$State", "copy", "(LStowTongueModel$State;)V"⟩ : Cond) ∈ am_tbl := am_w 1986 (by decide +kernel) (by decide +kernel)
theorem w_1989 : (Cond.code ⟨"StowTongueModel$State", "copy", "(LStowTongueModel$State;)V"⟩ prog_15_method_2_code 3 none : Cond) ∈ am_tbl := am_w 1989 (by decide +kernel) (by decide +kernel)
theorem l_Mod_448 : am_L "StowTongueModel" 448 1 m_State_copy := ⟨Or.inl w_1986, w_163, w_1989, ⟨by decide, by decide⟩, by decide +kernel, by decide⟩
theorem w_1987 : (Cond.instanceMethod ⟨"StowTongueModel$State", "copy", "(LStowTongueModel$State;)V"⟩ : Cond) ∈ am_tbl := am_w 1987 (by decide +kernel) (by decide +kernel)
theorem w_1988 : (Cond.selects "StowTongueModel$State" ⟨"StowTongueModel$State", "copy", "(LStowTongueModel$State;)V"⟩ ⟨"StowTongueModel$State", "copy", "(LStowTongueModel$State;)V"⟩ : Cond) ∈ am_tbl := am_w 1988 (by decide +kernel) (by decide +kernel)
theorem d_Mod_sync_13 : decode prog_13_method_67_code 13 = .ok (.invokevirtual 448, 3) := by decide +kernel
theorem d_Mod_sync_16 : decode prog_13_method_67_code 16 = .ok (.aload_n 0, 1) := by decide +kernel
theorem d_Mod_sync_17 : decode prog_13_method_67_code 17 = .ok (.iconst 0, 1) := by decide +kernel
theorem d_Mod_sync_18 : decode prog_13_method_67_code 18 = .ok (.putfield 409, 3) := by decide +kernel
theorem d_Mod_sync_21 : decode prog_13_method_67_code 21 = .ok (.iload_n 1, 1) := by decide +kernel
theorem d_Mod_sync_22 : decode prog_13_method_67_code 22 = .ok (.ireturn, 1) := by decide +kernel
abbrev m_Stow_root : am_M := (⟨"StowTongue", "root", "()J"⟩, prog_1_method_10_code, 11, (some FieldType.long))
theorem d_Stow_root_0 : decode prog_1_method_10_code 0 = .ok (.aload_n 0, 1) := by decide +kernel
theorem d_Stow_root_1 : decode prog_1_method_10_code 1 = .ok (.getfield 9, 3) := by decide +kernel
theorem d_Stow_root_4 : decode prog_1_method_10_code 4 = .ok (.aload_n 0, 1) := by decide +kernel
theorem w_496 : (Cond.fieldLink "StowTongue" 48 "StowTongue" "tapeSize" "I" : Cond) ∈ am_tbl := am_w 496 (by decide +kernel) (by decide +kernel)
theorem f_Stow_48 : am_F "StowTongue" 48 9 1 := ⟨_, rfl, cl_9, by decide, Or.inl w_496⟩
theorem d_Stow_root_5 : decode prog_1_method_10_code 5 = .ok (.getfield 48, 3) := by decide +kernel
abbrev m_Lexer_wholeName : am_M := (⟨"StowTongue$Lexer", "wholeName", "([BI)J"⟩, prog_4_method_11_code, 5, (some FieldType.long))
theorem d_Lexer_wholeName_0 : decode prog_4_method_11_code 0 = .ok (.iload_n 1, 1) := by decide +kernel
theorem d_Lexer_wholeName_1 : decode prog_4_method_11_code 1 = .ok (.iconst 1, 1) := by decide +kernel
theorem d_Lexer_wholeName_2 : decode prog_4_method_11_code 2 = .ok (.if_icmp .lt 24, 3) := by decide +kernel
theorem d_Lexer_wholeName_26 : decode prog_4_method_11_code 26 = .ok (.lconst 0, 1) := by decide +kernel
theorem d_Lexer_wholeName_27 : decode prog_4_method_11_code 27 = .ok (.lreturn, 1) := by decide +kernel
theorem w_1399 : (Cond.methodLink "StowTongue" 145 ⟨"StowTongue$Lexer", "wholeName", "([BI)J"⟩ : Cond) ∈ am_tbl := am_w 1399 (by decide +kernel) (by decide +kernel)
theorem w_1401 : (Cond.code ⟨"StowTongue$Lexer", "wholeName", "([BI)J"⟩ prog_4_method_11_code 5 (some FieldType.long) : Cond) ∈ am_tbl := am_w 1401 (by decide +kernel) (by decide +kernel)
theorem l_Stow_145 : am_L "StowTongue" 145 2 m_Lexer_wholeName := ⟨Or.inl w_1399, w_146, w_1401, ⟨by decide, by decide⟩, by decide +kernel, by decide⟩
theorem w_1400 : (Cond.static ⟨"StowTongue$Lexer", "wholeName", "([BI)J"⟩ : Cond) ∈ am_tbl := am_w 1400 (by decide +kernel) (by decide +kernel)
theorem d_Stow_root_8 : decode prog_1_method_10_code 8 = .ok (.invokestatic 145, 3) := by decide +kernel
theorem d_Stow_root_11 : decode prog_1_method_10_code 11 = .ok (.lstore_n 1, 1) := by decide +kernel
theorem d_Stow_root_12 : decode prog_1_method_10_code 12 = .ok (.aload_n 0, 1) := by decide +kernel
theorem d_Stow_root_13 : decode prog_1_method_10_code 13 = .ok (.iconst 0, 1) := by decide +kernel
theorem d_Stow_root_14 : decode prog_1_method_10_code 14 = .ok (.putfield 48, 3) := by decide +kernel
theorem d_Stow_root_17 : decode prog_1_method_10_code 17 = .ok (.aload_n 0, 1) := by decide +kernel
theorem d_Stow_root_18 : decode prog_1_method_10_code 18 = .ok (.getfield 37, 3) := by decide +kernel
abbrev m_Log_latest : am_M := (⟨"StowTongue$Log", "latest", "()LStowTongue$Store;"⟩, prog_5_method_4_code, 1, (some (FieldType.object "StowTongue$Store")))
theorem d_Log_latest_0 : decode prog_5_method_4_code 0 = .ok (.aload_n 0, 1) := by decide +kernel
theorem d_Log_latest_1 : decode prog_5_method_4_code 1 = .ok (.aload_n 0, 1) := by decide +kernel
theorem d_Log_latest_2 : decode prog_5_method_4_code 2 = .ok (.getfield 27, 3) := by decide +kernel
abbrev m_Log_storeAt : am_M := (⟨"StowTongue$Log", "storeAt", "(I)LStowTongue$Store;"⟩, prog_5_method_3_code, 3, (some (FieldType.object "StowTongue$Store")))
theorem d_Log_storeAt_0 : decode prog_5_method_3_code 0 = .ok (.aload_n 0, 1) := by decide +kernel
theorem d_Log_storeAt_1 : decode prog_5_method_3_code 1 = .ok (.getfield 11, 3) := by decide +kernel
theorem d_Log_storeAt_4 : decode prog_5_method_3_code 4 = .ok (.iload_n 1, 1) := by decide +kernel
theorem d_Log_storeAt_5 : decode prog_5_method_3_code 5 = .ok (.aaload, 1) := by decide +kernel
theorem d_Log_storeAt_6 : decode prog_5_method_3_code 6 = .ok (.astore_n 2, 1) := by decide +kernel
theorem d_Log_storeAt_7 : decode prog_5_method_3_code 7 = .ok (.aload_n 2, 1) := by decide +kernel
theorem d_Log_storeAt_8 : decode prog_5_method_3_code 8 = .ok (.ifnonnull 18, 3) := by decide +kernel
theorem w_961 : (Cond.instantiable "StowTongue$Store" 9 : Cond) ∈ am_tbl := am_w 961 (by decide +kernel) (by decide +kernel)
theorem n_Log_9 : am_N "StowTongue$Log" 9 10 9 [.null, .null, .null, .null, .null, .null, .int 0, .null, .int 0] := ⟨_, rfl, cl_10, rfl, by decide +kernel, w_463, w_961, w_169⟩
theorem d_Log_storeAt_11 : decode prog_5_method_3_code 11 = .ok (.new 9, 3) := by decide +kernel
theorem d_Log_storeAt_14 : decode prog_5_method_3_code 14 = .ok (.dup, 1) := by decide +kernel
abbrev m_Store_init : am_M := (⟨"StowTongue$Store", "<init>", "()V"⟩, prog_9_method_1_code, 1, none)
theorem d_Store_init_0 : decode prog_9_method_1_code 0 = .ok (.aload_n 0, 1) := by decide +kernel
theorem d_Store_init_1 : decode prog_9_method_1_code 1 = .ok (.invokespecial 1, 3) := by decide +kernel
theorem w_965 : (Cond.methodLink "StowTongue$Store" 1 ⟨"java/lang/Object", "<init>", "()V"⟩ : Cond) ∈ am_tbl := am_w 965 (by decide +kernel) (by decide +kernel)
theorem d_Store_init_4 : decode prog_9_method_1_code 4 = .ok (.aload_n 0, 1) := by decide +kernel
theorem d_Store_init_5 : decode prog_9_method_1_code 5 = .ok (.sipush 2000, 3) := by decide +kernel
theorem d_Store_init_8 : decode prog_9_method_1_code 8 = .ok (.newarray .long, 2) := by decide +kernel
theorem w_970 : (Cond.fieldLink "StowTongue$Store" 9 "StowTongue$Store" "head" "[J" : Cond) ∈ am_tbl := am_w 970 (by decide +kernel) (by decide +kernel)
theorem f_Store_9 : am_F "StowTongue$Store" 9 10 0 := ⟨_, rfl, cl_10, by decide, Or.inl w_970⟩
theorem d_Store_init_10 : decode prog_9_method_1_code 10 = .ok (.putfield 9, 3) := by decide +kernel
theorem d_Store_init_13 : decode prog_9_method_1_code 13 = .ok (.aload_n 0, 1) := by decide +kernel
theorem d_Store_init_14 : decode prog_9_method_1_code 14 = .ok (.sipush 2000, 3) := by decide +kernel
theorem d_Store_init_17 : decode prog_9_method_1_code 17 = .ok (.newarray .long, 2) := by decide +kernel
theorem w_973 : (Cond.fieldLink "StowTongue$Store" 13 "StowTongue$Store" "tail" "[J" : Cond) ∈ am_tbl := am_w 973 (by decide +kernel) (by decide +kernel)
theorem f_Store_13 : am_F "StowTongue$Store" 13 10 1 := ⟨_, rfl, cl_10, by decide, Or.inl w_973⟩
theorem d_Store_init_19 : decode prog_9_method_1_code 19 = .ok (.putfield 13, 3) := by decide +kernel
theorem d_Store_init_22 : decode prog_9_method_1_code 22 = .ok (.aload_n 0, 1) := by decide +kernel
theorem d_Store_init_23 : decode prog_9_method_1_code 23 = .ok (.bipush 100, 2) := by decide +kernel
theorem d_Store_init_25 : decode prog_9_method_1_code 25 = .ok (.newarray .int, 2) := by decide +kernel
theorem d_Store_init_27 : decode prog_9_method_1_code 27 = .ok (.putfield 16, 3) := by decide +kernel
theorem d_Store_init_30 : decode prog_9_method_1_code 30 = .ok (.aload_n 0, 1) := by decide +kernel
theorem d_Store_init_31 : decode prog_9_method_1_code 31 = .ok (.bipush 12, 2) := by decide +kernel
theorem d_Store_init_33 : decode prog_9_method_1_code 33 = .ok (.newarray .long, 2) := by decide +kernel
theorem w_977 : (Cond.fieldLink "StowTongue$Store" 20 "StowTongue$Store" "rootName" "[J" : Cond) ∈ am_tbl := am_w 977 (by decide +kernel) (by decide +kernel)
theorem f_Store_20 : am_F "StowTongue$Store" 20 10 3 := ⟨_, rfl, cl_10, by decide, Or.inl w_977⟩
theorem d_Store_init_35 : decode prog_9_method_1_code 35 = .ok (.putfield 20, 3) := by decide +kernel
theorem d_Store_init_38 : decode prog_9_method_1_code 38 = .ok (.aload_n 0, 1) := by decide +kernel
theorem d_Store_init_39 : decode prog_9_method_1_code 39 = .ok (.bipush 12, 2) := by decide +kernel
theorem d_Store_init_41 : decode prog_9_method_1_code 41 = .ok (.newarray .long, 2) := by decide +kernel
theorem w_978 : (Cond.fieldLink "StowTongue$Store" 23 "StowTongue$Store" "rootHead" "[J" : Cond) ∈ am_tbl := am_w 978 (by decide +kernel) (by decide +kernel)
theorem f_Store_23 : am_F "StowTongue$Store" 23 10 4 := ⟨_, rfl, cl_10, by decide, Or.inl w_978⟩
theorem d_Store_init_43 : decode prog_9_method_1_code 43 = .ok (.putfield 23, 3) := by decide +kernel
theorem d_Store_init_46 : decode prog_9_method_1_code 46 = .ok (.aload_n 0, 1) := by decide +kernel
theorem d_Store_init_47 : decode prog_9_method_1_code 47 = .ok (.bipush 12, 2) := by decide +kernel
theorem d_Store_init_49 : decode prog_9_method_1_code 49 = .ok (.newarray .long, 2) := by decide +kernel
theorem w_982 : (Cond.fieldLink "StowTongue$Store" 26 "StowTongue$Store" "rootTail" "[J" : Cond) ∈ am_tbl := am_w 982 (by decide +kernel) (by decide +kernel)
theorem f_Store_26 : am_F "StowTongue$Store" 26 10 5 := ⟨_, rfl, cl_10, by decide, Or.inl w_982⟩
theorem d_Store_init_51 : decode prog_9_method_1_code 51 = .ok (.putfield 26, 3) := by decide +kernel
theorem d_Store_init_54 : decode prog_9_method_1_code 54 = .ok (.aload_n 0, 1) := by decide +kernel
theorem d_Store_init_55 : decode prog_9_method_1_code 55 = .ok (.bipush 10, 2) := by decide +kernel
theorem d_Store_init_57 : decode prog_9_method_1_code 57 = .ok (.anewarray 29, 3) := by decide +kernel
theorem w_966 : (Cond.classLink "StowTongue$Store" 29 "StowTongue$Unit" : Cond) ∈ am_tbl := am_w 966 (by decide +kernel) (by decide +kernel)
theorem w_987 : (Cond.fieldLink "StowTongue$Store" 31 "StowTongue$Store" "told" "[LStowTongue$Unit;" : Cond) ∈ am_tbl := am_w 987 (by decide +kernel) (by decide +kernel)
theorem f_Store_31 : am_F "StowTongue$Store" 31 10 7 := ⟨_, rfl, cl_10, by decide, Or.inl w_987⟩
theorem d_Store_init_60 : decode prog_9_method_1_code 60 = .ok (.putfield 31, 3) := by decide +kernel
theorem d_Store_init_63 : decode prog_9_method_1_code 63 = .ok (.aload_n 0, 1) := by decide +kernel
theorem d_Store_init_64 : decode prog_9_method_1_code 64 = .ok (.getfield 16, 3) := by decide +kernel
theorem d_Store_init_67 : decode prog_9_method_1_code 67 = .ok (.iconst (-1), 1) := by decide +kernel
theorem w_967 : (Cond.methodLink "StowTongue$Store" 35 ⟨"java/util/Arrays", "fill", "([II)V"⟩ : Cond) ∈ am_tbl := am_w 967 (by decide +kernel) (by decide +kernel)
theorem w_166 : (Cond.initialized "java/util/Arrays" : Cond) ∈ am_tbl := am_w 166 (by decide +kernel) (by decide +kernel)
theorem w_969 : (Cond.code ⟨"java/util/Arrays", "fill", "([II)V"⟩ prog_29_method_103_code 4 none : Cond) ∈ am_tbl := am_w 969 (by decide +kernel) (by decide +kernel)
theorem l_Store_35 : am_L "StowTongue$Store" 35 2 m_Arr_fill_aII := ⟨Or.inl w_967, w_166, w_969, ⟨by decide, by decide⟩, by decide +kernel, by decide⟩
theorem w_968 : (Cond.static ⟨"java/util/Arrays", "fill", "([II)V"⟩ : Cond) ∈ am_tbl := am_w 968 (by decide +kernel) (by decide +kernel)
theorem d_Store_init_68 : decode prog_9_method_1_code 68 = .ok (.invokestatic 35, 3) := by decide +kernel
theorem d_Store_init_71 : decode prog_9_method_1_code 71 = .ok (.return_, 1) := by decide +kernel
theorem w_962 : (Cond.methodLink "StowTongue$Log" 26 ⟨"StowTongue$Store", "<init>", "()V"⟩ : Cond) ∈ am_tbl := am_w 962 (by decide +kernel) (by decide +kernel)
theorem w_964 : (Cond.code ⟨"StowTongue$Store", "<init>", "()V"⟩ prog_9_method_1_code 1 none : Cond) ∈ am_tbl := am_w 964 (by decide +kernel) (by decide +kernel)
theorem l_Log_26 : am_L "StowTongue$Log" 26 0 m_Store_init := ⟨Or.inl w_962, w_169, w_964, ⟨by decide, by decide⟩, by decide +kernel, by decide⟩
theorem w_963 : (Cond.instanceMethod ⟨"StowTongue$Store", "<init>", "()V"⟩ : Cond) ∈ am_tbl := am_w 963 (by decide +kernel) (by decide +kernel)
theorem d_Log_storeAt_15 : decode prog_5_method_3_code 15 = .ok (.invokespecial 26, 3) := by decide +kernel
theorem d_Log_storeAt_18 : decode prog_5_method_3_code 18 = .ok (.astore_n 2, 1) := by decide +kernel
theorem d_Log_storeAt_19 : decode prog_5_method_3_code 19 = .ok (.aload_n 0, 1) := by decide +kernel
theorem d_Log_storeAt_20 : decode prog_5_method_3_code 20 = .ok (.getfield 11, 3) := by decide +kernel
theorem d_Log_storeAt_23 : decode prog_5_method_3_code 23 = .ok (.iload_n 1, 1) := by decide +kernel
theorem d_Log_storeAt_24 : decode prog_5_method_3_code 24 = .ok (.aload_n 2, 1) := by decide +kernel
theorem d_Log_storeAt_25 : decode prog_5_method_3_code 25 = .ok (.aastore, 1) := by decide +kernel
theorem d_Log_storeAt_26 : decode prog_5_method_3_code 26 = .ok (.aload_n 2, 1) := by decide +kernel
theorem d_Log_storeAt_27 : decode prog_5_method_3_code 27 = .ok (.areturn, 1) := by decide +kernel
theorem w_957 : (Cond.methodLink "StowTongue$Log" 31 ⟨"StowTongue$Log", "storeAt", "(I)LStowTongue$Store;"⟩ : Cond) ∈ am_tbl := am_w 957 (by decide +kernel) (by decide +kernel)
theorem w_960 : (Cond.code ⟨"StowTongue$Log", "storeAt", "(I)LStowTongue$Store;"⟩ prog_5_method_3_code 3 (some (FieldType.object "StowTongue$Store")) : Cond) ∈ am_tbl := am_w 960 (by decide +kernel) (by decide +kernel)
theorem l_Log_31 : am_L "StowTongue$Log" 31 1 m_Log_storeAt := ⟨Or.inl w_957, w_158, w_960, ⟨by decide, by decide⟩, by decide +kernel, by decide⟩
theorem w_959 : (Cond.instanceMethod ⟨"StowTongue$Log", "storeAt", "(I)LStowTongue$Store;"⟩ : Cond) ∈ am_tbl := am_w 959 (by decide +kernel) (by decide +kernel)
theorem w_40 : (Cond.selects "StowTongue$Log" ⟨"StowTongue$Log", "storeAt", "(I)LStowTongue$Store;"⟩ ⟨"StowTongue$Log", "storeAt", "(I)LStowTongue$Store;"⟩ : Cond) ∈ am_tbl := am_w 40 (by decide +kernel) (by decide +kernel)
theorem d_Log_latest_5 : decode prog_5_method_4_code 5 = .ok (.invokevirtual 31, 3) := by decide +kernel
theorem d_Log_latest_8 : decode prog_5_method_4_code 8 = .ok (.areturn, 1) := by decide +kernel
theorem w_1337 : (Cond.methodLink "StowTongue" 103 ⟨"StowTongue$Log", "latest", "()LStowTongue$Store;"⟩ : Cond) ∈ am_tbl := am_w 1337 (by decide +kernel) (by decide +kernel)
theorem w_1011 : (Cond.code ⟨"StowTongue$Log", "latest", "()LStowTongue$Store;"⟩ prog_5_method_4_code 1 (some (FieldType.object "StowTongue$Store")) : Cond) ∈ am_tbl := am_w 1011 (by decide +kernel) (by decide +kernel)
theorem l_Stow_103 : am_L "StowTongue" 103 0 m_Log_latest := ⟨Or.inl w_1337, w_158, w_1011, ⟨by decide, by decide⟩, by decide +kernel, by decide⟩
theorem w_1009 : (Cond.instanceMethod ⟨"StowTongue$Log", "latest", "()LStowTongue$Store;"⟩ : Cond) ∈ am_tbl := am_w 1009 (by decide +kernel) (by decide +kernel)
theorem w_1010 : (Cond.selects "StowTongue$Log" ⟨"StowTongue$Log", "latest", "()LStowTongue$Store;"⟩ ⟨"StowTongue$Log", "latest", "()LStowTongue$Store;"⟩ : Cond) ∈ am_tbl := am_w 1010 (by decide +kernel) (by decide +kernel)
theorem d_Stow_root_21 : decode prog_1_method_10_code 21 = .ok (.invokevirtual 103, 3) := by decide +kernel
theorem d_Stow_root_24 : decode prog_1_method_10_code 24 = .ok (.astore_n 3, 1) := by decide +kernel
theorem d_Stow_root_25 : decode prog_1_method_10_code 25 = .ok (.lload_n 1, 1) := by decide +kernel
theorem d_Stow_root_26 : decode prog_1_method_10_code 26 = .ok (.lconst 0, 1) := by decide +kernel
theorem d_Stow_root_27 : decode prog_1_method_10_code 27 = .ok (.lcmp, 1) := by decide +kernel
theorem d_Stow_root_28 : decode prog_1_method_10_code 28 = .ok (.ifCond .ne 7, 3) := by decide +kernel
theorem d_Stow_root_31 : decode prog_1_method_10_code 31 = .ok (.iconst (-1), 1) := by decide +kernel
theorem d_Stow_root_32 : decode prog_1_method_10_code 32 = .ok (.goto 8, 3) := by decide +kernel
theorem d_Stow_root_40 : decode prog_1_method_10_code 40 = .ok (.istore 4, 2) := by decide +kernel
theorem d_Stow_root_42 : decode prog_1_method_10_code 42 = .ok (.iload 4, 2) := by decide +kernel
theorem d_Stow_root_44 : decode prog_1_method_10_code 44 = .ok (.ifCond .ge 7, 3) := by decide +kernel
theorem d_Stow_root_47 : decode prog_1_method_10_code 47 = .ok (.ldc2_w 136, 3) := by decide +kernel
theorem d_Stow_root_50 : decode prog_1_method_10_code 50 = .ok (.lreturn, 1) := by decide +kernel
abbrev m_Mod_root : am_M := (⟨"StowTongueModel", "root", "()J"⟩, prog_13_method_73_code, 6, (some FieldType.long))
theorem d_Mod_root_0 : decode prog_13_method_73_code 0 = .ok (.aload_n 0, 1) := by decide +kernel
theorem w_1624 : (Cond.fieldLink "StowTongueModel" 134 "StowTongueModel" "tapeMany" "I" : Cond) ∈ am_tbl := am_w 1624 (by decide +kernel) (by decide +kernel)
theorem f_Mod_134 : am_F "StowTongueModel" 134 14 2 := ⟨_, rfl, cl_14, by decide, Or.inl w_1624⟩
theorem d_Mod_root_1 : decode prog_13_method_73_code 1 = .ok (.getfield 134, 3) := by decide +kernel
theorem d_Mod_root_4 : decode prog_13_method_73_code 4 = .ok (.istore_n 1, 1) := by decide +kernel
theorem d_Mod_root_5 : decode prog_13_method_73_code 5 = .ok (.aload_n 0, 1) := by decide +kernel
theorem d_Mod_root_6 : decode prog_13_method_73_code 6 = .ok (.iconst 0, 1) := by decide +kernel
theorem d_Mod_root_7 : decode prog_13_method_73_code 7 = .ok (.putfield 134, 3) := by decide +kernel
theorem d_Mod_root_10 : decode prog_13_method_73_code 10 = .ok (.lconst 0, 1) := by decide +kernel
theorem d_Mod_root_11 : decode prog_13_method_73_code 11 = .ok (.lstore_n 2, 1) := by decide +kernel
theorem d_Mod_root_12 : decode prog_13_method_73_code 12 = .ok (.iconst 0, 1) := by decide +kernel
theorem d_Mod_root_13 : decode prog_13_method_73_code 13 = .ok (.istore 4, 2) := by decide +kernel
theorem d_Mod_root_15 : decode prog_13_method_73_code 15 = .ok (.iload 4, 2) := by decide +kernel
theorem d_Mod_root_17 : decode prog_13_method_73_code 17 = .ok (.iload_n 1, 1) := by decide +kernel
theorem d_Mod_root_18 : decode prog_13_method_73_code 18 = .ok (.if_icmp .ge 47, 3) := by decide +kernel
theorem d_Mod_root_65 : decode prog_13_method_73_code 65 = .ok (.aload_n 0, 1) := by decide +kernel
theorem d_Mod_root_66 : decode prog_13_method_73_code 66 = .ok (.getfield 349, 3) := by decide +kernel
theorem d_Mod_root_69 : decode prog_13_method_73_code 69 = .ok (.lload_n 2, 1) := by decide +kernel
abbrev m_State_findRoot : am_M := (⟨"StowTongueModel$State", "findRoot", "(J)I"⟩, prog_15_method_3_code, 4, (some FieldType.int))
theorem d_State_findRoot_0 : decode prog_15_method_3_code 0 = .ok (.iconst 0, 1) := by decide +kernel
theorem d_State_findRoot_1 : decode prog_15_method_3_code 1 = .ok (.istore_n 3, 1) := by decide +kernel
theorem d_State_findRoot_2 : decode prog_15_method_3_code 2 = .ok (.iload_n 3, 1) := by decide +kernel
theorem d_State_findRoot_3 : decode prog_15_method_3_code 3 = .ok (.aload_n 0, 1) := by decide +kernel
theorem d_State_findRoot_4 : decode prog_15_method_3_code 4 = .ok (.getfield 60, 3) := by decide +kernel
theorem d_State_findRoot_7 : decode prog_15_method_3_code 7 = .ok (.if_icmp .ge 22, 3) := by decide +kernel
theorem d_State_findRoot_29 : decode prog_15_method_3_code 29 = .ok (.iconst (-1), 1) := by decide +kernel
theorem d_State_findRoot_30 : decode prog_15_method_3_code 30 = .ok (.ireturn, 1) := by decide +kernel
theorem w_2042 : (Cond.methodLink "StowTongueModel" 469 ⟨"StowTongueModel$State", "findRoot", "(J)I"⟩ : Cond) ∈ am_tbl := am_w 2042 (by decide +kernel) (by decide +kernel)
theorem w_2045 : (Cond.code ⟨"StowTongueModel$State", "findRoot", "(J)I"⟩ prog_15_method_3_code 4 (some FieldType.int) : Cond) ∈ am_tbl := am_w 2045 (by decide +kernel) (by decide +kernel)
theorem l_Mod_469 : am_L "StowTongueModel" 469 1 m_State_findRoot := ⟨Or.inl w_2042, w_163, w_2045, ⟨by decide, by decide⟩, by decide +kernel, by decide⟩
theorem w_2043 : (Cond.instanceMethod ⟨"StowTongueModel$State", "findRoot", "(J)I"⟩ : Cond) ∈ am_tbl := am_w 2043 (by decide +kernel) (by decide +kernel)
theorem w_2044 : (Cond.selects "StowTongueModel$State" ⟨"StowTongueModel$State", "findRoot", "(J)I"⟩ ⟨"StowTongueModel$State", "findRoot", "(J)I"⟩ : Cond) ∈ am_tbl := am_w 2044 (by decide +kernel) (by decide +kernel)
theorem d_Mod_root_70 : decode prog_13_method_73_code 70 = .ok (.invokevirtual 469, 3) := by decide +kernel
theorem d_Mod_root_73 : decode prog_13_method_73_code 73 = .ok (.istore 4, 2) := by decide +kernel
theorem d_Mod_root_75 : decode prog_13_method_73_code 75 = .ok (.iload 4, 2) := by decide +kernel
theorem d_Mod_root_77 : decode prog_13_method_73_code 77 = .ok (.ifCond .ge 7, 3) := by decide +kernel
theorem d_Mod_root_80 : decode prog_13_method_73_code 80 = .ok (.ldc2_w 50, 3) := by decide +kernel
theorem d_Mod_root_83 : decode prog_13_method_73_code 83 = .ok (.lreturn, 1) := by decide +kernel
abbrev m_Stow_sweep : am_M := (⟨"StowTongue", "sweep", "()I"⟩, prog_1_method_13_code, 3, (some FieldType.int))
theorem d_Stow_sweep_0 : decode prog_1_method_13_code 0 = .ok (.aload_n 0, 1) := by decide +kernel
theorem d_Stow_sweep_1 : decode prog_1_method_13_code 1 = .ok (.getfield 37, 3) := by decide +kernel
abbrev m_Log_workCopy : am_M := (⟨"StowTongue$Log", "workCopy", "()LStowTongue$Store;"⟩, prog_5_method_5_code, 2, (some (FieldType.object "StowTongue$Store")))
theorem d_Log_workCopy_0 : decode prog_5_method_5_code 0 = .ok (.aload_n 0, 1) := by decide +kernel
theorem d_Log_workCopy_1 : decode prog_5_method_5_code 1 = .ok (.aload_n 0, 1) := by decide +kernel
theorem d_Log_workCopy_2 : decode prog_5_method_5_code 2 = .ok (.getfield 27, 3) := by decide +kernel
theorem d_Log_workCopy_5 : decode prog_5_method_5_code 5 = .ok (.iconst 1, 1) := by decide +kernel
theorem d_Log_workCopy_6 : decode prog_5_method_5_code 6 = .ok (.iadd, 1) := by decide +kernel
theorem d_Log_workCopy_7 : decode prog_5_method_5_code 7 = .ok (.invokevirtual 31, 3) := by decide +kernel
theorem d_Log_workCopy_10 : decode prog_5_method_5_code 10 = .ok (.astore_n 1, 1) := by decide +kernel
theorem d_Log_workCopy_11 : decode prog_5_method_5_code 11 = .ok (.aload_n 1, 1) := by decide +kernel
theorem d_Log_workCopy_12 : decode prog_5_method_5_code 12 = .ok (.aload_n 0, 1) := by decide +kernel
theorem w_1008 : (Cond.methodLink "StowTongue$Log" 35 ⟨"StowTongue$Log", "latest", "()LStowTongue$Store;"⟩ : Cond) ∈ am_tbl := am_w 1008 (by decide +kernel) (by decide +kernel)
theorem l_Log_35 : am_L "StowTongue$Log" 35 0 m_Log_latest := ⟨Or.inl w_1008, w_158, w_1011, ⟨by decide, by decide⟩, by decide +kernel, by decide⟩
theorem d_Log_workCopy_13 : decode prog_5_method_5_code 13 = .ok (.invokevirtual 35, 3) := by decide +kernel
abbrev m_Store_copyFrom : am_M := (⟨"StowTongue$Store", "copyFrom", "(LStowTongue$Store;)V"⟩, prog_9_method_2_code, 3, none)
theorem d_Store_copyFrom_0 : decode prog_9_method_2_code 0 = .ok (.aload_n 1, 1) := by decide +kernel
theorem d_Store_copyFrom_1 : decode prog_9_method_2_code 1 = .ok (.getfield 9, 3) := by decide +kernel
theorem d_Store_copyFrom_4 : decode prog_9_method_2_code 4 = .ok (.iconst 0, 1) := by decide +kernel
theorem d_Store_copyFrom_5 : decode prog_9_method_2_code 5 = .ok (.aload_n 0, 1) := by decide +kernel
theorem d_Store_copyFrom_6 : decode prog_9_method_2_code 6 = .ok (.getfield 9, 3) := by decide +kernel
theorem d_Store_copyFrom_9 : decode prog_9_method_2_code 9 = .ok (.iconst 0, 1) := by decide +kernel
theorem d_Store_copyFrom_10 : decode prog_9_method_2_code 10 = .ok (.aload_n 0, 1) := by decide +kernel
theorem d_Store_copyFrom_11 : decode prog_9_method_2_code 11 = .ok (.getfield 9, 3) := by decide +kernel
theorem d_Store_copyFrom_14 : decode prog_9_method_2_code 14 = .ok (.arraylength, 1) := by decide +kernel
theorem w_1016 : (Cond.methodLink "StowTongue$Store" 41 ⟨"java/lang/System", "arraycopy", "(Ljava/lang/Object;ILjava/lang/Object;II)V"⟩ : Cond) ∈ am_tbl := am_w 1016 (by decide +kernel) (by decide +kernel)
theorem d_Store_copyFrom_15 : decode prog_9_method_2_code 15 = .ok (.invokestatic 41, 3) := by decide +kernel
theorem d_Store_copyFrom_18 : decode prog_9_method_2_code 18 = .ok (.aload_n 1, 1) := by decide +kernel
theorem d_Store_copyFrom_19 : decode prog_9_method_2_code 19 = .ok (.getfield 13, 3) := by decide +kernel
theorem d_Store_copyFrom_22 : decode prog_9_method_2_code 22 = .ok (.iconst 0, 1) := by decide +kernel
theorem d_Store_copyFrom_23 : decode prog_9_method_2_code 23 = .ok (.aload_n 0, 1) := by decide +kernel
theorem d_Store_copyFrom_24 : decode prog_9_method_2_code 24 = .ok (.getfield 13, 3) := by decide +kernel
theorem d_Store_copyFrom_27 : decode prog_9_method_2_code 27 = .ok (.iconst 0, 1) := by decide +kernel
theorem d_Store_copyFrom_28 : decode prog_9_method_2_code 28 = .ok (.aload_n 0, 1) := by decide +kernel
theorem d_Store_copyFrom_29 : decode prog_9_method_2_code 29 = .ok (.getfield 13, 3) := by decide +kernel
theorem d_Store_copyFrom_32 : decode prog_9_method_2_code 32 = .ok (.arraylength, 1) := by decide +kernel
theorem d_Store_copyFrom_33 : decode prog_9_method_2_code 33 = .ok (.invokestatic 41, 3) := by decide +kernel
theorem d_Store_copyFrom_36 : decode prog_9_method_2_code 36 = .ok (.aload_n 1, 1) := by decide +kernel
theorem d_Store_copyFrom_37 : decode prog_9_method_2_code 37 = .ok (.getfield 16, 3) := by decide +kernel
theorem d_Store_copyFrom_40 : decode prog_9_method_2_code 40 = .ok (.iconst 0, 1) := by decide +kernel
theorem d_Store_copyFrom_41 : decode prog_9_method_2_code 41 = .ok (.aload_n 0, 1) := by decide +kernel
theorem d_Store_copyFrom_42 : decode prog_9_method_2_code 42 = .ok (.getfield 16, 3) := by decide +kernel
theorem d_Store_copyFrom_45 : decode prog_9_method_2_code 45 = .ok (.iconst 0, 1) := by decide +kernel
theorem d_Store_copyFrom_46 : decode prog_9_method_2_code 46 = .ok (.aload_n 0, 1) := by decide +kernel
theorem d_Store_copyFrom_47 : decode prog_9_method_2_code 47 = .ok (.getfield 16, 3) := by decide +kernel
theorem d_Store_copyFrom_50 : decode prog_9_method_2_code 50 = .ok (.arraylength, 1) := by decide +kernel
theorem d_Store_copyFrom_51 : decode prog_9_method_2_code 51 = .ok (.invokestatic 41, 3) := by decide +kernel
theorem d_Store_copyFrom_54 : decode prog_9_method_2_code 54 = .ok (.aload_n 1, 1) := by decide +kernel
theorem d_Store_copyFrom_55 : decode prog_9_method_2_code 55 = .ok (.getfield 20, 3) := by decide +kernel
theorem d_Store_copyFrom_58 : decode prog_9_method_2_code 58 = .ok (.iconst 0, 1) := by decide +kernel
theorem d_Store_copyFrom_59 : decode prog_9_method_2_code 59 = .ok (.aload_n 0, 1) := by decide +kernel
theorem d_Store_copyFrom_60 : decode prog_9_method_2_code 60 = .ok (.getfield 20, 3) := by decide +kernel
theorem d_Store_copyFrom_63 : decode prog_9_method_2_code 63 = .ok (.iconst 0, 1) := by decide +kernel
theorem d_Store_copyFrom_64 : decode prog_9_method_2_code 64 = .ok (.aload_n 0, 1) := by decide +kernel
theorem d_Store_copyFrom_65 : decode prog_9_method_2_code 65 = .ok (.getfield 20, 3) := by decide +kernel
theorem d_Store_copyFrom_68 : decode prog_9_method_2_code 68 = .ok (.arraylength, 1) := by decide +kernel
theorem d_Store_copyFrom_69 : decode prog_9_method_2_code 69 = .ok (.invokestatic 41, 3) := by decide +kernel
theorem d_Store_copyFrom_72 : decode prog_9_method_2_code 72 = .ok (.aload_n 1, 1) := by decide +kernel
theorem d_Store_copyFrom_73 : decode prog_9_method_2_code 73 = .ok (.getfield 23, 3) := by decide +kernel
theorem d_Store_copyFrom_76 : decode prog_9_method_2_code 76 = .ok (.iconst 0, 1) := by decide +kernel
theorem d_Store_copyFrom_77 : decode prog_9_method_2_code 77 = .ok (.aload_n 0, 1) := by decide +kernel
theorem d_Store_copyFrom_78 : decode prog_9_method_2_code 78 = .ok (.getfield 23, 3) := by decide +kernel
theorem d_Store_copyFrom_81 : decode prog_9_method_2_code 81 = .ok (.iconst 0, 1) := by decide +kernel
theorem d_Store_copyFrom_82 : decode prog_9_method_2_code 82 = .ok (.aload_n 0, 1) := by decide +kernel
theorem d_Store_copyFrom_83 : decode prog_9_method_2_code 83 = .ok (.getfield 23, 3) := by decide +kernel
theorem d_Store_copyFrom_86 : decode prog_9_method_2_code 86 = .ok (.arraylength, 1) := by decide +kernel
theorem d_Store_copyFrom_87 : decode prog_9_method_2_code 87 = .ok (.invokestatic 41, 3) := by decide +kernel
theorem d_Store_copyFrom_90 : decode prog_9_method_2_code 90 = .ok (.aload_n 1, 1) := by decide +kernel
theorem d_Store_copyFrom_91 : decode prog_9_method_2_code 91 = .ok (.getfield 26, 3) := by decide +kernel
theorem d_Store_copyFrom_94 : decode prog_9_method_2_code 94 = .ok (.iconst 0, 1) := by decide +kernel
theorem d_Store_copyFrom_95 : decode prog_9_method_2_code 95 = .ok (.aload_n 0, 1) := by decide +kernel
theorem d_Store_copyFrom_96 : decode prog_9_method_2_code 96 = .ok (.getfield 26, 3) := by decide +kernel
theorem d_Store_copyFrom_99 : decode prog_9_method_2_code 99 = .ok (.iconst 0, 1) := by decide +kernel
theorem d_Store_copyFrom_100 : decode prog_9_method_2_code 100 = .ok (.aload_n 0, 1) := by decide +kernel
theorem d_Store_copyFrom_101 : decode prog_9_method_2_code 101 = .ok (.getfield 26, 3) := by decide +kernel
theorem d_Store_copyFrom_104 : decode prog_9_method_2_code 104 = .ok (.arraylength, 1) := by decide +kernel
theorem d_Store_copyFrom_105 : decode prog_9_method_2_code 105 = .ok (.invokestatic 41, 3) := by decide +kernel
theorem d_Store_copyFrom_108 : decode prog_9_method_2_code 108 = .ok (.iconst 0, 1) := by decide +kernel
theorem d_Store_copyFrom_109 : decode prog_9_method_2_code 109 = .ok (.istore_n 2, 1) := by decide +kernel
theorem d_Store_copyFrom_110 : decode prog_9_method_2_code 110 = .ok (.iload_n 2, 1) := by decide +kernel
theorem d_Store_copyFrom_111 : decode prog_9_method_2_code 111 = .ok (.bipush 10, 2) := by decide +kernel
theorem d_Store_copyFrom_113 : decode prog_9_method_2_code 113 = .ok (.if_icmp .ge 21, 3) := by decide +kernel
theorem d_Store_copyFrom_116 : decode prog_9_method_2_code 116 = .ok (.aload_n 0, 1) := by decide +kernel
theorem d_Store_copyFrom_117 : decode prog_9_method_2_code 117 = .ok (.getfield 31, 3) := by decide +kernel
theorem d_Store_copyFrom_120 : decode prog_9_method_2_code 120 = .ok (.iload_n 2, 1) := by decide +kernel
theorem d_Store_copyFrom_121 : decode prog_9_method_2_code 121 = .ok (.aload_n 1, 1) := by decide +kernel
theorem d_Store_copyFrom_122 : decode prog_9_method_2_code 122 = .ok (.getfield 31, 3) := by decide +kernel
theorem d_Store_copyFrom_125 : decode prog_9_method_2_code 125 = .ok (.iload_n 2, 1) := by decide +kernel
theorem d_Store_copyFrom_126 : decode prog_9_method_2_code 126 = .ok (.aaload, 1) := by decide +kernel
theorem d_Store_copyFrom_127 : decode prog_9_method_2_code 127 = .ok (.aastore, 1) := by decide +kernel
theorem d_Store_copyFrom_128 : decode prog_9_method_2_code 128 = .ok (.iinc 2 1, 3) := by decide +kernel
theorem d_Store_copyFrom_131 : decode prog_9_method_2_code 131 = .ok (.goto (-21), 3) := by decide +kernel
theorem d_Store_copyFrom_134 : decode prog_9_method_2_code 134 = .ok (.aload_n 0, 1) := by decide +kernel
theorem d_Store_copyFrom_135 : decode prog_9_method_2_code 135 = .ok (.aload_n 1, 1) := by decide +kernel
theorem w_986 : (Cond.fieldLink "StowTongue$Store" 47 "StowTongue$Store" "roots" "I" : Cond) ∈ am_tbl := am_w 986 (by decide +kernel) (by decide +kernel)
theorem f_Store_47 : am_F "StowTongue$Store" 47 10 6 := ⟨_, rfl, cl_10, by decide, Or.inl w_986⟩
theorem d_Store_copyFrom_136 : decode prog_9_method_2_code 136 = .ok (.getfield 47, 3) := by decide +kernel
theorem d_Store_copyFrom_139 : decode prog_9_method_2_code 139 = .ok (.putfield 47, 3) := by decide +kernel
theorem d_Store_copyFrom_142 : decode prog_9_method_2_code 142 = .ok (.aload_n 0, 1) := by decide +kernel
theorem d_Store_copyFrom_143 : decode prog_9_method_2_code 143 = .ok (.aload_n 1, 1) := by decide +kernel
theorem w_988 : (Cond.fieldLink "StowTongue$Store" 51 "StowTongue$Store" "functions" "I" : Cond) ∈ am_tbl := am_w 988 (by decide +kernel) (by decide +kernel)
theorem f_Store_51 : am_F "StowTongue$Store" 51 10 8 := ⟨_, rfl, cl_10, by decide, Or.inl w_988⟩
theorem d_Store_copyFrom_144 : decode prog_9_method_2_code 144 = .ok (.getfield 51, 3) := by decide +kernel
theorem d_Store_copyFrom_147 : decode prog_9_method_2_code 147 = .ok (.putfield 51, 3) := by decide +kernel
theorem d_Store_copyFrom_150 : decode prog_9_method_2_code 150 = .ok (.return_, 1) := by decide +kernel
theorem w_1012 : (Cond.methodLink "StowTongue$Log" 39 ⟨"StowTongue$Store", "copyFrom", "(LStowTongue$Store;)V"⟩ : Cond) ∈ am_tbl := am_w 1012 (by decide +kernel) (by decide +kernel)
theorem w_1015 : (Cond.code ⟨"StowTongue$Store", "copyFrom", "(LStowTongue$Store;)V"⟩ prog_9_method_2_code 3 none : Cond) ∈ am_tbl := am_w 1015 (by decide +kernel) (by decide +kernel)
theorem l_Log_39 : am_L "StowTongue$Log" 39 1 m_Store_copyFrom := ⟨Or.inl w_1012, w_169, w_1015, ⟨by decide, by decide⟩, by decide +kernel, by decide⟩
theorem w_1013 : (Cond.instanceMethod ⟨"StowTongue$Store", "copyFrom", "(LStowTongue$Store;)V"⟩ : Cond) ∈ am_tbl := am_w 1013 (by decide +kernel) (by decide +kernel)
theorem w_1014 : (Cond.selects "StowTongue$Store" ⟨"StowTongue$Store", "copyFrom", "(LStowTongue$Store;)V"⟩ ⟨"StowTongue$Store", "copyFrom", "(LStowTongue$Store;)V"⟩ : Cond) ∈ am_tbl := am_w 1014 (by decide +kernel) (by decide +kernel)
theorem d_Log_workCopy_16 : decode prog_5_method_5_code 16 = .ok (.invokevirtual 39, 3) := by decide +kernel
theorem d_Log_workCopy_19 : decode prog_5_method_5_code 19 = .ok (.aload_n 1, 1) := by decide +kernel
theorem d_Log_workCopy_20 : decode prog_5_method_5_code 20 = .ok (.areturn, 1) := by decide +kernel
theorem w_953 : (Cond.methodLink "StowTongue" 66 ⟨"StowTongue$Log", "workCopy", "()LStowTongue$Store;"⟩ : Cond) ∈ am_tbl := am_w 953 (by decide +kernel) (by decide +kernel)
theorem w_956 : (Cond.code ⟨"StowTongue$Log", "workCopy", "()LStowTongue$Store;"⟩ prog_5_method_5_code 2 (some (FieldType.object "StowTongue$Store")) : Cond) ∈ am_tbl := am_w 956 (by decide +kernel) (by decide +kernel)
theorem l_Stow_66 : am_L "StowTongue" 66 0 m_Log_workCopy := ⟨Or.inl w_953, w_158, w_956, ⟨by decide, by decide⟩, by decide +kernel, by decide⟩
theorem w_954 : (Cond.instanceMethod ⟨"StowTongue$Log", "workCopy", "()LStowTongue$Store;"⟩ : Cond) ∈ am_tbl := am_w 954 (by decide +kernel) (by decide +kernel)
theorem w_955 : (Cond.selects "StowTongue$Log" ⟨"StowTongue$Log", "workCopy", "()LStowTongue$Store;"⟩ ⟨"StowTongue$Log", "workCopy", "()LStowTongue$Store;"⟩ : Cond) ∈ am_tbl := am_w 955 (by decide +kernel) (by decide +kernel)
theorem d_Stow_sweep_4 : decode prog_1_method_13_code 4 = .ok (.invokevirtual 66, 3) := by decide +kernel
theorem d_Stow_sweep_7 : decode prog_1_method_13_code 7 = .ok (.astore_n 1, 1) := by decide +kernel
theorem d_Stow_sweep_8 : decode prog_1_method_13_code 8 = .ok (.aload_n 0, 1) := by decide +kernel
theorem d_Stow_sweep_9 : decode prog_1_method_13_code 9 = .ok (.getfield 44, 3) := by decide +kernel
theorem d_Stow_sweep_12 : decode prog_1_method_13_code 12 = .ok (.aload_n 1, 1) := by decide +kernel
theorem d_Sweep_clean_0 : decode prog_10_method_2_code 0 = .ok (.iconst 0, 1) := by decide +kernel
theorem d_Sweep_clean_1 : decode prog_10_method_2_code 1 = .ok (.istore_n 2, 1) := by decide +kernel
theorem d_Sweep_clean_21 : decode prog_10_method_2_code 21 = .ok (.aload_n 0, 1) := by decide +kernel
theorem d_Sweep_clean_22 : decode prog_10_method_2_code 22 = .ok (.iconst 0, 1) := by decide +kernel
theorem w_486 : (Cond.fieldLink "StowTongue$Sweeper" 19 "StowTongue$Sweeper" "queued" "I" : Cond) ∈ am_tbl := am_w 486 (by decide +kernel) (by decide +kernel)
theorem f_Sweep_19 : am_F "StowTongue$Sweeper" 19 8 2 := ⟨_, rfl, cl_8, by decide, Or.inl w_486⟩
theorem d_Sweep_clean_23 : decode prog_10_method_2_code 23 = .ok (.putfield 19, 3) := by decide +kernel
theorem d_Sweep_clean_26 : decode prog_10_method_2_code 26 = .ok (.iconst 0, 1) := by decide +kernel
theorem d_Sweep_clean_27 : decode prog_10_method_2_code 27 = .ok (.istore_n 2, 1) := by decide +kernel
theorem d_Sweep_clean_28 : decode prog_10_method_2_code 28 = .ok (.iload_n 2, 1) := by decide +kernel
theorem d_Sweep_clean_29 : decode prog_10_method_2_code 29 = .ok (.aload_n 1, 1) := by decide +kernel
abbrev m_Store_roots : am_M := (⟨"StowTongue$Store", "roots", "()I"⟩, prog_9_method_14_code, 1, (some FieldType.int))
theorem d_Store_roots_0 : decode prog_9_method_14_code 0 = .ok (.aload_n 0, 1) := by decide +kernel
theorem d_Store_roots_1 : decode prog_9_method_14_code 1 = .ok (.getfield 47, 3) := by decide +kernel
theorem d_Store_roots_4 : decode prog_9_method_14_code 4 = .ok (.ireturn, 1) := by decide +kernel
theorem w_1434 : (Cond.methodLink "StowTongue$Sweeper" 23 ⟨"StowTongue$Store", "roots", "()I"⟩ : Cond) ∈ am_tbl := am_w 1434 (by decide +kernel) (by decide +kernel)
theorem w_1437 : (Cond.code ⟨"StowTongue$Store", "roots", "()I"⟩ prog_9_method_14_code 1 (some FieldType.int) : Cond) ∈ am_tbl := am_w 1437 (by decide +kernel) (by decide +kernel)
theorem l_Sweep_23 : am_L "StowTongue$Sweeper" 23 0 m_Store_roots := ⟨Or.inl w_1434, w_169, w_1437, ⟨by decide, by decide⟩, by decide +kernel, by decide⟩
theorem w_1435 : (Cond.instanceMethod ⟨"StowTongue$Store", "roots", "()I"⟩ : Cond) ∈ am_tbl := am_w 1435 (by decide +kernel) (by decide +kernel)
theorem w_1436 : (Cond.selects "StowTongue$Store" ⟨"StowTongue$Store", "roots", "()I"⟩ ⟨"StowTongue$Store", "roots", "()I"⟩ : Cond) ∈ am_tbl := am_w 1436 (by decide +kernel) (by decide +kernel)
theorem d_Sweep_clean_30 : decode prog_10_method_2_code 30 = .ok (.invokevirtual 23, 3) := by decide +kernel
theorem d_Sweep_clean_33 : decode prog_10_method_2_code 33 = .ok (.if_icmp .ge 25, 3) := by decide +kernel
theorem d_Sweep_clean_58 : decode prog_10_method_2_code 58 = .ok (.iconst 0, 1) := by decide +kernel
theorem d_Sweep_clean_59 : decode prog_10_method_2_code 59 = .ok (.istore_n 2, 1) := by decide +kernel
theorem d_Sweep_clean_60 : decode prog_10_method_2_code 60 = .ok (.iload_n 2, 1) := by decide +kernel
theorem d_Sweep_clean_61 : decode prog_10_method_2_code 61 = .ok (.aload_n 0, 1) := by decide +kernel
theorem d_Sweep_clean_62 : decode prog_10_method_2_code 62 = .ok (.getfield 19, 3) := by decide +kernel
theorem d_Sweep_clean_65 : decode prog_10_method_2_code 65 = .ok (.if_icmp .ge 26, 3) := by decide +kernel
theorem d_Sweep_clean_91 : decode prog_10_method_2_code 91 = .ok (.aload_n 0, 1) := by decide +kernel
theorem d_Sweep_clean_92 : decode prog_10_method_2_code 92 = .ok (.aload_n 1, 1) := by decide +kernel
theorem w_1452 : (Cond.methodLink "StowTongue$Sweeper" 42 ⟨"StowTongue$Sweeper", "takeUnreached", "(LStowTongue$Store;)I"⟩ : Cond) ∈ am_tbl := am_w 1452 (by decide +kernel) (by decide +kernel)
theorem w_1455 : (Cond.code ⟨"StowTongue$Sweeper", "takeUnreached", "(LStowTongue$Store;)I"⟩ prog_10_method_5_code 4 (some FieldType.int) : Cond) ∈ am_tbl := am_w 1455 (by decide +kernel) (by decide +kernel)
theorem l_Sweep_42 : am_L "StowTongue$Sweeper" 42 1 m_Sweep_takeUnreached := ⟨Or.inl w_1452, w_159, w_1455, ⟨by decide, by decide⟩, by decide +kernel, by decide⟩
theorem w_1454 : (Cond.instanceMethod ⟨"StowTongue$Sweeper", "takeUnreached", "(LStowTongue$Store;)I"⟩ : Cond) ∈ am_tbl := am_w 1454 (by decide +kernel) (by decide +kernel)
theorem w_82 : (Cond.selects "StowTongue$Sweeper" ⟨"StowTongue$Sweeper", "takeUnreached", "(LStowTongue$Store;)I"⟩ ⟨"StowTongue$Sweeper", "takeUnreached", "(LStowTongue$Store;)I"⟩ : Cond) ∈ am_tbl := am_w 82 (by decide +kernel) (by decide +kernel)
theorem d_Sweep_clean_93 : decode prog_10_method_2_code 93 = .ok (.invokevirtual 42, 3) := by decide +kernel
theorem d_Sweep_clean_96 : decode prog_10_method_2_code 96 = .ok (.ireturn, 1) := by decide +kernel
theorem w_1430 : (Cond.methodLink "StowTongue" 181 ⟨"StowTongue$Sweeper", "clean", "(LStowTongue$Store;)I"⟩ : Cond) ∈ am_tbl := am_w 1430 (by decide +kernel) (by decide +kernel)
theorem w_1433 : (Cond.code ⟨"StowTongue$Sweeper", "clean", "(LStowTongue$Store;)I"⟩ prog_10_method_2_code 3 (some FieldType.int) : Cond) ∈ am_tbl := am_w 1433 (by decide +kernel) (by decide +kernel)
theorem l_Stow_181 : am_L "StowTongue" 181 1 m_Sweep_clean := ⟨Or.inl w_1430, w_159, w_1433, ⟨by decide, by decide⟩, by decide +kernel, by decide⟩
theorem w_1431 : (Cond.instanceMethod ⟨"StowTongue$Sweeper", "clean", "(LStowTongue$Store;)I"⟩ : Cond) ∈ am_tbl := am_w 1431 (by decide +kernel) (by decide +kernel)
theorem w_1432 : (Cond.selects "StowTongue$Sweeper" ⟨"StowTongue$Sweeper", "clean", "(LStowTongue$Store;)I"⟩ ⟨"StowTongue$Sweeper", "clean", "(LStowTongue$Store;)I"⟩ : Cond) ∈ am_tbl := am_w 1432 (by decide +kernel) (by decide +kernel)
theorem d_Stow_sweep_13 : decode prog_1_method_13_code 13 = .ok (.invokevirtual 181, 3) := by decide +kernel
theorem d_Stow_sweep_16 : decode prog_1_method_13_code 16 = .ok (.istore_n 2, 1) := by decide +kernel
theorem d_Stow_sweep_17 : decode prog_1_method_13_code 17 = .ok (.iload_n 2, 1) := by decide +kernel
theorem d_Stow_sweep_18 : decode prog_1_method_13_code 18 = .ok (.ifCond .le 12, 3) := by decide +kernel
theorem d_Stow_sweep_30 : decode prog_1_method_13_code 30 = .ok (.iload_n 2, 1) := by decide +kernel
theorem d_Stow_sweep_31 : decode prog_1_method_13_code 31 = .ok (.ireturn, 1) := by decide +kernel
theorem d_Mod_sweep_0 : decode prog_13_method_70_code 0 = .ok (.aload_n 0, 1) := by decide +kernel
theorem d_Mod_sweep_1 : decode prog_13_method_70_code 1 = .ok (.getfield 389, 3) := by decide +kernel
theorem d_Mod_sweep_4 : decode prog_13_method_70_code 4 = .ok (.iconst 0, 1) := by decide +kernel
theorem w_2154 : (Cond.methodLink "StowTongueModel" 607 ⟨"java/util/Arrays", "fill", "([ZZ)V"⟩ : Cond) ∈ am_tbl := am_w 2154 (by decide +kernel) (by decide +kernel)
theorem w_2156 : (Cond.code ⟨"java/util/Arrays", "fill", "([ZZ)V"⟩ prog_29_method_111_code 4 none : Cond) ∈ am_tbl := am_w 2156 (by decide +kernel) (by decide +kernel)
theorem l_Mod_607 : am_L "StowTongueModel" 607 2 m_Arr_fill_aZZ := ⟨Or.inl w_2154, w_166, w_2156, ⟨by decide, by decide⟩, by decide +kernel, by decide⟩
theorem w_2155 : (Cond.static ⟨"java/util/Arrays", "fill", "([ZZ)V"⟩ : Cond) ∈ am_tbl := am_w 2155 (by decide +kernel) (by decide +kernel)
theorem d_Mod_sweep_5 : decode prog_13_method_70_code 5 = .ok (.invokestatic 607, 3) := by decide +kernel
theorem d_Mod_sweep_8 : decode prog_13_method_70_code 8 = .ok (.aload_n 0, 1) := by decide +kernel
theorem d_Mod_sweep_9 : decode prog_13_method_70_code 9 = .ok (.iconst 0, 1) := by decide +kernel
theorem w_1674 : (Cond.fieldLink "StowTongueModel" 604 "StowTongueModel" "walked" "I" : Cond) ∈ am_tbl := am_w 1674 (by decide +kernel) (by decide +kernel)
theorem f_Mod_604 : am_F "StowTongueModel" 604 14 52 := ⟨_, rfl, cl_14, by decide, Or.inl w_1674⟩
theorem d_Mod_sweep_10 : decode prog_13_method_70_code 10 = .ok (.putfield 604, 3) := by decide +kernel
theorem d_Mod_sweep_13 : decode prog_13_method_70_code 13 = .ok (.iconst 0, 1) := by decide +kernel
theorem d_Mod_sweep_14 : decode prog_13_method_70_code 14 = .ok (.istore_n 1, 1) := by decide +kernel
theorem d_Mod_sweep_15 : decode prog_13_method_70_code 15 = .ok (.iload_n 1, 1) := by decide +kernel
theorem d_Mod_sweep_16 : decode prog_13_method_70_code 16 = .ok (.aload_n 0, 1) := by decide +kernel
theorem d_Mod_sweep_17 : decode prog_13_method_70_code 17 = .ok (.getfield 349, 3) := by decide +kernel
theorem w_1590 : (Cond.fieldLink "StowTongueModel" 463 "StowTongueModel$State" "roots" "I" : Cond) ∈ am_tbl := am_w 1590 (by decide +kernel) (by decide +kernel)
theorem f_Mod_463 : am_F "StowTongueModel" 463 13 9 := ⟨_, rfl, cl_13, by decide, Or.inl w_1590⟩
theorem d_Mod_sweep_20 : decode prog_13_method_70_code 20 = .ok (.getfield 463, 3) := by decide +kernel
theorem d_Mod_sweep_23 : decode prog_13_method_70_code 23 = .ok (.if_icmp .ge 37, 3) := by decide +kernel
theorem d_Mod_sweep_60 : decode prog_13_method_70_code 60 = .ok (.iconst 0, 1) := by decide +kernel
theorem d_Mod_sweep_61 : decode prog_13_method_70_code 61 = .ok (.istore_n 1, 1) := by decide +kernel
theorem d_Mod_sweep_62 : decode prog_13_method_70_code 62 = .ok (.iload_n 1, 1) := by decide +kernel
theorem d_Mod_sweep_63 : decode prog_13_method_70_code 63 = .ok (.aload_n 0, 1) := by decide +kernel
theorem d_Mod_sweep_64 : decode prog_13_method_70_code 64 = .ok (.getfield 604, 3) := by decide +kernel
theorem d_Mod_sweep_67 : decode prog_13_method_70_code 67 = .ok (.if_icmp .ge 75, 3) := by decide +kernel
theorem d_Mod_sweep_142 : decode prog_13_method_70_code 142 = .ok (.iconst 0, 1) := by decide +kernel
theorem d_Mod_sweep_143 : decode prog_13_method_70_code 143 = .ok (.istore_n 1, 1) := by decide +kernel
theorem d_Mod_sweep_144 : decode prog_13_method_70_code 144 = .ok (.iconst 0, 1) := by decide +kernel
theorem d_Mod_sweep_145 : decode prog_13_method_70_code 145 = .ok (.istore_n 2, 1) := by decide +kernel
theorem d_Mod_sweep_218 : decode prog_13_method_70_code 218 = .ok (.iload_n 1, 1) := by decide +kernel
theorem d_Mod_sweep_219 : decode prog_13_method_70_code 219 = .ok (.ifCond .le 9, 3) := by decide +kernel
theorem d_Mod_sweep_228 : decode prog_13_method_70_code 228 = .ok (.iload_n 1, 1) := by decide +kernel
theorem d_Mod_sweep_229 : decode prog_13_method_70_code 229 = .ok (.ireturn, 1) := by decide +kernel
abbrev m_Stow_count : am_M := (⟨"StowTongue", "count", "(I)I"⟩, prog_1_method_14_code, 3, (some FieldType.int))
theorem d_Stow_count_0 : decode prog_1_method_14_code 0 = .ok (.aload_n 0, 1) := by decide +kernel
theorem d_Stow_count_1 : decode prog_1_method_14_code 1 = .ok (.getfield 37, 3) := by decide +kernel
theorem d_Stow_count_4 : decode prog_1_method_14_code 4 = .ok (.invokevirtual 103, 3) := by decide +kernel
theorem d_Stow_count_7 : decode prog_1_method_14_code 7 = .ok (.astore_n 2, 1) := by decide +kernel
theorem d_Stow_count_8 : decode prog_1_method_14_code 8 = .ok (.iload_n 1, 1) := by decide +kernel
theorem d_Stow_count_9 : decode prog_1_method_14_code 9 = .ok (.tableswitch 104 0 7 #[47, 52, 57, 62, 67, 83, 91, 99], 47) := by decide +kernel
theorem d_Stow_count_56 : decode prog_1_method_14_code 56 = .ok (.aload_n 2, 1) := by decide +kernel
theorem w_1465 : (Cond.methodLink "StowTongue" 185 ⟨"StowTongue$Store", "objects", "()I"⟩ : Cond) ∈ am_tbl := am_w 1465 (by decide +kernel) (by decide +kernel)
theorem w_1468 : (Cond.code ⟨"StowTongue$Store", "objects", "()I"⟩ prog_9_method_3_code 3 (some FieldType.int) : Cond) ∈ am_tbl := am_w 1468 (by decide +kernel) (by decide +kernel)
theorem l_Stow_185 : am_L "StowTongue" 185 0 m_Store_objects := ⟨Or.inl w_1465, w_169, w_1468, ⟨by decide, by decide⟩, by decide +kernel, by decide⟩
theorem w_1466 : (Cond.instanceMethod ⟨"StowTongue$Store", "objects", "()I"⟩ : Cond) ∈ am_tbl := am_w 1466 (by decide +kernel) (by decide +kernel)
theorem w_1467 : (Cond.selects "StowTongue$Store" ⟨"StowTongue$Store", "objects", "()I"⟩ ⟨"StowTongue$Store", "objects", "()I"⟩ : Cond) ∈ am_tbl := am_w 1467 (by decide +kernel) (by decide +kernel)
theorem d_Stow_count_57 : decode prog_1_method_14_code 57 = .ok (.invokevirtual 185, 3) := by decide +kernel
theorem d_Stow_count_60 : decode prog_1_method_14_code 60 = .ok (.ireturn, 1) := by decide +kernel
abbrev m_Mod_count : am_M := (⟨"StowTongueModel", "count", "(I)I"⟩, prog_13_method_74_code, 4, (some FieldType.int))
theorem d_Mod_count_0 : decode prog_13_method_74_code 0 = .ok (.iconst 0, 1) := by decide +kernel
theorem d_Mod_count_1 : decode prog_13_method_74_code 1 = .ok (.istore_n 2, 1) := by decide +kernel
theorem d_Mod_count_2 : decode prog_13_method_74_code 2 = .ok (.iload_n 1, 1) := by decide +kernel
theorem d_Mod_count_3 : decode prog_13_method_74_code 3 = .ok (.tableswitch 122 0 7 #[45, 53, 61, 69, 77, 82, 112, 117], 45) := by decide +kernel
theorem d_Mod_count_48 : decode prog_13_method_74_code 48 = .ok (.aload_n 0, 1) := by decide +kernel
theorem d_Mod_count_49 : decode prog_13_method_74_code 49 = .ok (.getfield 349, 3) := by decide +kernel
theorem w_1588 : (Cond.fieldLink "StowTongueModel" 578 "StowTongueModel$State" "objects" "I" : Cond) ∈ am_tbl := am_w 1588 (by decide +kernel) (by decide +kernel)
theorem f_Mod_578 : am_F "StowTongueModel" 578 13 8 := ⟨_, rfl, cl_13, by decide, Or.inl w_1588⟩
theorem d_Mod_count_52 : decode prog_13_method_74_code 52 = .ok (.getfield 578, 3) := by decide +kernel
theorem d_Mod_count_55 : decode prog_13_method_74_code 55 = .ok (.ireturn, 1) := by decide +kernel
theorem d_Stow_count_61 : decode prog_1_method_14_code 61 = .ok (.aload_n 2, 1) := by decide +kernel
theorem w_1469 : (Cond.methodLink "StowTongue" 188 ⟨"StowTongue$Store", "roots", "()I"⟩ : Cond) ∈ am_tbl := am_w 1469 (by decide +kernel) (by decide +kernel)
theorem l_Stow_188 : am_L "StowTongue" 188 0 m_Store_roots := ⟨Or.inl w_1469, w_169, w_1437, ⟨by decide, by decide⟩, by decide +kernel, by decide⟩
theorem d_Stow_count_62 : decode prog_1_method_14_code 62 = .ok (.invokevirtual 188, 3) := by decide +kernel
theorem d_Stow_count_65 : decode prog_1_method_14_code 65 = .ok (.ireturn, 1) := by decide +kernel
theorem d_Mod_count_56 : decode prog_13_method_74_code 56 = .ok (.aload_n 0, 1) := by decide +kernel
theorem d_Mod_count_57 : decode prog_13_method_74_code 57 = .ok (.getfield 349, 3) := by decide +kernel
theorem d_Mod_count_60 : decode prog_13_method_74_code 60 = .ok (.getfield 463, 3) := by decide +kernel
theorem d_Mod_count_63 : decode prog_13_method_74_code 63 = .ok (.ireturn, 1) := by decide +kernel
theorem d_Stow_count_66 : decode prog_1_method_14_code 66 = .ok (.aload_n 2, 1) := by decide +kernel
abbrev m_Store_functions : am_M := (⟨"StowTongue$Store", "functions", "()I"⟩, prog_9_method_18_code, 1, (some FieldType.int))
theorem d_Store_functions_0 : decode prog_9_method_18_code 0 = .ok (.aload_n 0, 1) := by decide +kernel
theorem d_Store_functions_1 : decode prog_9_method_18_code 1 = .ok (.getfield 51, 3) := by decide +kernel
theorem d_Store_functions_4 : decode prog_9_method_18_code 4 = .ok (.ireturn, 1) := by decide +kernel
theorem w_1470 : (Cond.methodLink "StowTongue" 191 ⟨"StowTongue$Store", "functions", "()I"⟩ : Cond) ∈ am_tbl := am_w 1470 (by decide +kernel) (by decide +kernel)
theorem w_1473 : (Cond.code ⟨"StowTongue$Store", "functions", "()I"⟩ prog_9_method_18_code 1 (some FieldType.int) : Cond) ∈ am_tbl := am_w 1473 (by decide +kernel) (by decide +kernel)
theorem l_Stow_191 : am_L "StowTongue" 191 0 m_Store_functions := ⟨Or.inl w_1470, w_169, w_1473, ⟨by decide, by decide⟩, by decide +kernel, by decide⟩
theorem w_1471 : (Cond.instanceMethod ⟨"StowTongue$Store", "functions", "()I"⟩ : Cond) ∈ am_tbl := am_w 1471 (by decide +kernel) (by decide +kernel)
theorem w_1472 : (Cond.selects "StowTongue$Store" ⟨"StowTongue$Store", "functions", "()I"⟩ ⟨"StowTongue$Store", "functions", "()I"⟩ : Cond) ∈ am_tbl := am_w 1472 (by decide +kernel) (by decide +kernel)
theorem d_Stow_count_67 : decode prog_1_method_14_code 67 = .ok (.invokevirtual 191, 3) := by decide +kernel
theorem d_Stow_count_70 : decode prog_1_method_14_code 70 = .ok (.ireturn, 1) := by decide +kernel
theorem d_Mod_count_64 : decode prog_13_method_74_code 64 = .ok (.aload_n 0, 1) := by decide +kernel
theorem d_Mod_count_65 : decode prog_13_method_74_code 65 = .ok (.getfield 349, 3) := by decide +kernel
theorem w_1592 : (Cond.fieldLink "StowTongueModel" 396 "StowTongueModel$State" "functions" "I" : Cond) ∈ am_tbl := am_w 1592 (by decide +kernel) (by decide +kernel)
theorem f_Mod_396 : am_F "StowTongueModel" 396 13 10 := ⟨_, rfl, cl_13, by decide, Or.inl w_1592⟩
theorem d_Mod_count_68 : decode prog_13_method_74_code 68 = .ok (.getfield 396, 3) := by decide +kernel
theorem d_Mod_count_71 : decode prog_13_method_74_code 71 = .ok (.ireturn, 1) := by decide +kernel
theorem d_Stow_count_71 : decode prog_1_method_14_code 71 = .ok (.aload_n 2, 1) := by decide +kernel
abbrev m_Store_functionTokens : am_M := (⟨"StowTongue$Store", "functionTokens", "()I"⟩, prog_9_method_21_code, 3, (some FieldType.int))
theorem d_Store_functionTokens_0 : decode prog_9_method_21_code 0 = .ok (.iconst 0, 1) := by decide +kernel
theorem d_Store_functionTokens_1 : decode prog_9_method_21_code 1 = .ok (.istore_n 1, 1) := by decide +kernel
theorem d_Store_functionTokens_2 : decode prog_9_method_21_code 2 = .ok (.iconst 0, 1) := by decide +kernel
theorem d_Store_functionTokens_3 : decode prog_9_method_21_code 3 = .ok (.istore_n 2, 1) := by decide +kernel
theorem d_Store_functionTokens_4 : decode prog_9_method_21_code 4 = .ok (.iload_n 2, 1) := by decide +kernel
theorem d_Store_functionTokens_5 : decode prog_9_method_21_code 5 = .ok (.aload_n 0, 1) := by decide +kernel
theorem d_Store_functionTokens_6 : decode prog_9_method_21_code 6 = .ok (.getfield 51, 3) := by decide +kernel
theorem d_Store_functionTokens_9 : decode prog_9_method_21_code 9 = .ok (.if_icmp .ge 34, 3) := by decide +kernel
theorem d_Store_functionTokens_43 : decode prog_9_method_21_code 43 = .ok (.iload_n 1, 1) := by decide +kernel
theorem d_Store_functionTokens_44 : decode prog_9_method_21_code 44 = .ok (.ireturn, 1) := by decide +kernel
theorem w_1474 : (Cond.methodLink "StowTongue" 194 ⟨"StowTongue$Store", "functionTokens", "()I"⟩ : Cond) ∈ am_tbl := am_w 1474 (by decide +kernel) (by decide +kernel)
theorem w_1052 : (Cond.code ⟨"StowTongue$Store", "functionTokens", "()I"⟩ prog_9_method_21_code 3 (some FieldType.int) : Cond) ∈ am_tbl := am_w 1052 (by decide +kernel) (by decide +kernel)
theorem l_Stow_194 : am_L "StowTongue" 194 0 m_Store_functionTokens := ⟨Or.inl w_1474, w_169, w_1052, ⟨by decide, by decide⟩, by decide +kernel, by decide⟩
theorem w_1050 : (Cond.instanceMethod ⟨"StowTongue$Store", "functionTokens", "()I"⟩ : Cond) ∈ am_tbl := am_w 1050 (by decide +kernel) (by decide +kernel)
theorem w_1051 : (Cond.selects "StowTongue$Store" ⟨"StowTongue$Store", "functionTokens", "()I"⟩ ⟨"StowTongue$Store", "functionTokens", "()I"⟩ : Cond) ∈ am_tbl := am_w 1051 (by decide +kernel) (by decide +kernel)
theorem d_Stow_count_72 : decode prog_1_method_14_code 72 = .ok (.invokevirtual 194, 3) := by decide +kernel
theorem d_Stow_count_75 : decode prog_1_method_14_code 75 = .ok (.ireturn, 1) := by decide +kernel
theorem d_Mod_count_72 : decode prog_13_method_74_code 72 = .ok (.aload_n 0, 1) := by decide +kernel
theorem d_Mod_count_73 : decode prog_13_method_74_code 73 = .ok (.getfield 349, 3) := by decide +kernel
abbrev m_Mod_tokensOf : am_M := (⟨"StowTongueModel", "tokensOf", "(LStowTongueModel$State;)I"⟩, prog_13_method_41_code, 3, (some FieldType.int))
theorem d_Mod_tokensOf_0 : decode prog_13_method_41_code 0 = .ok (.iconst 0, 1) := by decide +kernel
theorem d_Mod_tokensOf_1 : decode prog_13_method_41_code 1 = .ok (.istore_n 1, 1) := by decide +kernel
theorem d_Mod_tokensOf_2 : decode prog_13_method_41_code 2 = .ok (.iconst 0, 1) := by decide +kernel
theorem d_Mod_tokensOf_3 : decode prog_13_method_41_code 3 = .ok (.istore_n 2, 1) := by decide +kernel
theorem d_Mod_tokensOf_4 : decode prog_13_method_41_code 4 = .ok (.iload_n 2, 1) := by decide +kernel
theorem d_Mod_tokensOf_5 : decode prog_13_method_41_code 5 = .ok (.aload_n 0, 1) := by decide +kernel
theorem d_Mod_tokensOf_6 : decode prog_13_method_41_code 6 = .ok (.getfield 396, 3) := by decide +kernel
theorem d_Mod_tokensOf_9 : decode prog_13_method_41_code 9 = .ok (.if_icmp .ge 21, 3) := by decide +kernel
theorem d_Mod_tokensOf_30 : decode prog_13_method_41_code 30 = .ok (.iload_n 1, 1) := by decide +kernel
theorem d_Mod_tokensOf_31 : decode prog_13_method_41_code 31 = .ok (.ireturn, 1) := by decide +kernel
theorem w_2018 : (Cond.methodLink "StowTongueModel" 431 ⟨"StowTongueModel", "tokensOf", "(LStowTongueModel$State;)I"⟩ : Cond) ∈ am_tbl := am_w 2018 (by decide +kernel) (by decide +kernel)
theorem w_160 : (Cond.initialized "StowTongueModel" : Cond) ∈ am_tbl := am_w 160 (by decide +kernel) (by decide +kernel)
theorem w_2020 : (Cond.code ⟨"StowTongueModel", "tokensOf", "(LStowTongueModel$State;)I"⟩ prog_13_method_41_code 3 (some FieldType.int) : Cond) ∈ am_tbl := am_w 2020 (by decide +kernel) (by decide +kernel)
theorem l_Mod_431 : am_L "StowTongueModel" 431 1 m_Mod_tokensOf := ⟨Or.inl w_2018, w_160, w_2020, ⟨by decide, by decide⟩, by decide +kernel, by decide⟩
theorem w_2019 : (Cond.static ⟨"StowTongueModel", "tokensOf", "(LStowTongueModel$State;)I"⟩ : Cond) ∈ am_tbl := am_w 2019 (by decide +kernel) (by decide +kernel)
theorem d_Mod_count_76 : decode prog_13_method_74_code 76 = .ok (.invokestatic 431, 3) := by decide +kernel
theorem d_Mod_count_79 : decode prog_13_method_74_code 79 = .ok (.ireturn, 1) := by decide +kernel
theorem d_Stow_count_76 : decode prog_1_method_14_code 76 = .ok (.aload_n 0, 1) := by decide +kernel
theorem d_Stow_count_77 : decode prog_1_method_14_code 77 = .ok (.getfield 37, 3) := by decide +kernel
abbrev m_Log_safeBytes : am_M := (⟨"StowTongue$Log", "safeBytes", "()I"⟩, prog_5_method_12_code, 1, (some FieldType.int))
theorem d_Log_safeBytes_0 : decode prog_5_method_12_code 0 = .ok (.aload_n 0, 1) := by decide +kernel
theorem w_468 : (Cond.fieldLink "StowTongue$Log" 50 "StowTongue$Log" "safeBytes" "I" : Cond) ∈ am_tbl := am_w 468 (by decide +kernel) (by decide +kernel)
theorem f_Log_50 : am_F "StowTongue$Log" 50 7 3 := ⟨_, rfl, cl_7, by decide, Or.inl w_468⟩
theorem d_Log_safeBytes_1 : decode prog_5_method_12_code 1 = .ok (.getfield 50, 3) := by decide +kernel
theorem d_Log_safeBytes_4 : decode prog_5_method_12_code 4 = .ok (.ireturn, 1) := by decide +kernel
theorem w_1475 : (Cond.methodLink "StowTongue" 197 ⟨"StowTongue$Log", "safeBytes", "()I"⟩ : Cond) ∈ am_tbl := am_w 1475 (by decide +kernel) (by decide +kernel)
theorem w_1478 : (Cond.code ⟨"StowTongue$Log", "safeBytes", "()I"⟩ prog_5_method_12_code 1 (some FieldType.int) : Cond) ∈ am_tbl := am_w 1478 (by decide +kernel) (by decide +kernel)
theorem l_Stow_197 : am_L "StowTongue" 197 0 m_Log_safeBytes := ⟨Or.inl w_1475, w_158, w_1478, ⟨by decide, by decide⟩, by decide +kernel, by decide⟩
theorem w_1476 : (Cond.instanceMethod ⟨"StowTongue$Log", "safeBytes", "()I"⟩ : Cond) ∈ am_tbl := am_w 1476 (by decide +kernel) (by decide +kernel)
theorem w_1477 : (Cond.selects "StowTongue$Log" ⟨"StowTongue$Log", "safeBytes", "()I"⟩ ⟨"StowTongue$Log", "safeBytes", "()I"⟩ : Cond) ∈ am_tbl := am_w 1477 (by decide +kernel) (by decide +kernel)
theorem d_Stow_count_80 : decode prog_1_method_14_code 80 = .ok (.invokevirtual 197, 3) := by decide +kernel
theorem d_Stow_count_83 : decode prog_1_method_14_code 83 = .ok (.aload_n 0, 1) := by decide +kernel
theorem d_Stow_count_84 : decode prog_1_method_14_code 84 = .ok (.getfield 37, 3) := by decide +kernel
abbrev m_Log_waitingBytes : am_M := (⟨"StowTongue$Log", "waitingBytes", "()I"⟩, prog_5_method_13_code, 3, (some FieldType.int))
theorem d_Log_waitingBytes_0 : decode prog_5_method_13_code 0 = .ok (.iconst 0, 1) := by decide +kernel
theorem d_Log_waitingBytes_1 : decode prog_5_method_13_code 1 = .ok (.istore_n 1, 1) := by decide +kernel
theorem d_Log_waitingBytes_2 : decode prog_5_method_13_code 2 = .ok (.iconst 1, 1) := by decide +kernel
theorem d_Log_waitingBytes_3 : decode prog_5_method_13_code 3 = .ok (.istore_n 2, 1) := by decide +kernel
theorem d_Log_waitingBytes_4 : decode prog_5_method_13_code 4 = .ok (.iload_n 2, 1) := by decide +kernel
theorem d_Log_waitingBytes_5 : decode prog_5_method_13_code 5 = .ok (.aload_n 0, 1) := by decide +kernel
theorem d_Log_waitingBytes_6 : decode prog_5_method_13_code 6 = .ok (.getfield 27, 3) := by decide +kernel
theorem d_Log_waitingBytes_9 : decode prog_5_method_13_code 9 = .ok (.if_icmp .gt 18, 3) := by decide +kernel
theorem d_Log_waitingBytes_27 : decode prog_5_method_13_code 27 = .ok (.iload_n 1, 1) := by decide +kernel
theorem d_Log_waitingBytes_28 : decode prog_5_method_13_code 28 = .ok (.ireturn, 1) := by decide +kernel
theorem w_1479 : (Cond.methodLink "StowTongue" 200 ⟨"StowTongue$Log", "waitingBytes", "()I"⟩ : Cond) ∈ am_tbl := am_w 1479 (by decide +kernel) (by decide +kernel)
theorem w_1482 : (Cond.code ⟨"StowTongue$Log", "waitingBytes", "()I"⟩ prog_5_method_13_code 3 (some FieldType.int) : Cond) ∈ am_tbl := am_w 1482 (by decide +kernel) (by decide +kernel)
theorem l_Stow_200 : am_L "StowTongue" 200 0 m_Log_waitingBytes := ⟨Or.inl w_1479, w_158, w_1482, ⟨by decide, by decide⟩, by decide +kernel, by decide⟩
theorem w_1480 : (Cond.instanceMethod ⟨"StowTongue$Log", "waitingBytes", "()I"⟩ : Cond) ∈ am_tbl := am_w 1480 (by decide +kernel) (by decide +kernel)
theorem w_1481 : (Cond.selects "StowTongue$Log" ⟨"StowTongue$Log", "waitingBytes", "()I"⟩ ⟨"StowTongue$Log", "waitingBytes", "()I"⟩ : Cond) ∈ am_tbl := am_w 1481 (by decide +kernel) (by decide +kernel)
theorem d_Stow_count_87 : decode prog_1_method_14_code 87 = .ok (.invokevirtual 200, 3) := by decide +kernel
theorem d_Stow_count_90 : decode prog_1_method_14_code 90 = .ok (.iadd, 1) := by decide +kernel
theorem d_Stow_count_91 : decode prog_1_method_14_code 91 = .ok (.ireturn, 1) := by decide +kernel
theorem d_Mod_count_80 : decode prog_13_method_74_code 80 = .ok (.aload_n 0, 1) := by decide +kernel
theorem w_1657 : (Cond.fieldLink "StowTongueModel" 480 "StowTongueModel" "logged" "I" : Cond) ∈ am_tbl := am_w 1657 (by decide +kernel) (by decide +kernel)
theorem f_Mod_480 : am_F "StowTongueModel" 480 14 35 := ⟨_, rfl, cl_14, by decide, Or.inl w_1657⟩
theorem d_Mod_count_81 : decode prog_13_method_74_code 81 = .ok (.getfield 480, 3) := by decide +kernel
theorem d_Mod_count_84 : decode prog_13_method_74_code 84 = .ok (.ireturn, 1) := by decide +kernel
theorem d_Stow_count_92 : decode prog_1_method_14_code 92 = .ok (.aload_n 0, 1) := by decide +kernel
theorem d_Stow_count_93 : decode prog_1_method_14_code 93 = .ok (.getfield 37, 3) := by decide +kernel
theorem d_Stow_count_96 : decode prog_1_method_14_code 96 = .ok (.invokevirtual 200, 3) := by decide +kernel
theorem d_Stow_count_99 : decode prog_1_method_14_code 99 = .ok (.ireturn, 1) := by decide +kernel
theorem d_Mod_count_85 : decode prog_13_method_74_code 85 = .ok (.iconst 0, 1) := by decide +kernel
theorem d_Mod_count_86 : decode prog_13_method_74_code 86 = .ok (.istore_n 3, 1) := by decide +kernel
theorem d_Mod_count_87 : decode prog_13_method_74_code 87 = .ok (.iload_n 3, 1) := by decide +kernel
theorem d_Mod_count_88 : decode prog_13_method_74_code 88 = .ok (.aload_n 0, 1) := by decide +kernel
theorem d_Mod_count_89 : decode prog_13_method_74_code 89 = .ok (.getfield 409, 3) := by decide +kernel
theorem d_Mod_count_92 : decode prog_13_method_74_code 92 = .ok (.if_icmp .ge 21, 3) := by decide +kernel
theorem d_Mod_count_113 : decode prog_13_method_74_code 113 = .ok (.iload_n 2, 1) := by decide +kernel
theorem d_Mod_count_114 : decode prog_13_method_74_code 114 = .ok (.ireturn, 1) := by decide +kernel
theorem d_Stow_count_100 : decode prog_1_method_14_code 100 = .ok (.aload_n 0, 1) := by decide +kernel
theorem d_Stow_count_101 : decode prog_1_method_14_code 101 = .ok (.getfield 37, 3) := by decide +kernel
theorem d_Stow_count_104 : decode prog_1_method_14_code 104 = .ok (.invokevirtual 169, 3) := by decide +kernel
theorem d_Stow_count_107 : decode prog_1_method_14_code 107 = .ok (.ireturn, 1) := by decide +kernel
theorem d_Mod_count_115 : decode prog_13_method_74_code 115 = .ok (.aload_n 0, 1) := by decide +kernel
theorem d_Mod_count_116 : decode prog_13_method_74_code 116 = .ok (.getfield 409, 3) := by decide +kernel
theorem d_Mod_count_119 : decode prog_13_method_74_code 119 = .ok (.ireturn, 1) := by decide +kernel
theorem d_Stow_count_108 : decode prog_1_method_14_code 108 = .ok (.aload_n 0, 1) := by decide +kernel
theorem w_504 : (Cond.fieldLink "StowTongue" 86 "StowTongue" "fuelTaken" "I" : Cond) ∈ am_tbl := am_w 504 (by decide +kernel) (by decide +kernel)
theorem f_Stow_86 : am_F "StowTongue" 86 9 9 := ⟨_, rfl, cl_9, by decide, Or.inl w_504⟩
theorem d_Stow_count_109 : decode prog_1_method_14_code 109 = .ok (.getfield 86, 3) := by decide +kernel
theorem d_Stow_count_112 : decode prog_1_method_14_code 112 = .ok (.ireturn, 1) := by decide +kernel
theorem d_Mod_count_120 : decode prog_13_method_74_code 120 = .ok (.aload_n 0, 1) := by decide +kernel
theorem w_1666 : (Cond.fieldLink "StowTongueModel" 446 "StowTongueModel" "used" "I" : Cond) ∈ am_tbl := am_w 1666 (by decide +kernel) (by decide +kernel)
theorem f_Mod_446 : am_F "StowTongueModel" 446 14 44 := ⟨_, rfl, cl_14, by decide, Or.inl w_1666⟩
theorem d_Mod_count_121 : decode prog_13_method_74_code 121 = .ok (.getfield 446, 3) := by decide +kernel
theorem d_Mod_count_124 : decode prog_13_method_74_code 124 = .ok (.ireturn, 1) := by decide +kernel
