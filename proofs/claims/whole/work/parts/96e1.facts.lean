abbrev m_Mod_leave : am_M := (⟨"StowTongueModel", "leave", "()I"⟩, prog_13_method_53_code, 1, (some FieldType.int))
theorem d_Mod_leave_0 : decode prog_13_method_53_code 0 = .ok (.aload_n 0, 1) := by decide +kernel
theorem d_Mod_leave_1 : decode prog_13_method_53_code 1 = .ok (.dup, 1) := by decide +kernel
theorem d_Mod_leave_2 : decode prog_13_method_53_code 2 = .ok (.getfield 486, 3) := by decide +kernel
theorem d_Mod_leave_5 : decode prog_13_method_53_code 5 = .ok (.iconst 1, 1) := by decide +kernel
theorem d_Mod_leave_6 : decode prog_13_method_53_code 6 = .ok (.isub, 1) := by decide +kernel
theorem d_Mod_leave_7 : decode prog_13_method_53_code 7 = .ok (.putfield 486, 3) := by decide +kernel
theorem d_Mod_leave_10 : decode prog_13_method_53_code 10 = .ok (.aload_n 0, 1) := by decide +kernel
theorem d_Mod_leave_11 : decode prog_13_method_53_code 11 = .ok (.getfield 377, 3) := by decide +kernel
theorem d_Mod_leave_14 : decode prog_13_method_53_code 14 = .ok (.iconst 0, 1) := by decide +kernel
theorem d_Mod_leave_15 : decode prog_13_method_53_code 15 = .ok (.aload_n 0, 1) := by decide +kernel
theorem d_Mod_leave_16 : decode prog_13_method_53_code 16 = .ok (.getfield 368, 3) := by decide +kernel
theorem d_Mod_leave_19 : decode prog_13_method_53_code 19 = .ok (.aload_n 0, 1) := by decide +kernel
theorem d_Mod_leave_20 : decode prog_13_method_53_code 20 = .ok (.getfield 486, 3) := by decide +kernel
theorem d_Mod_leave_23 : decode prog_13_method_53_code 23 = .ok (.invokevirtual 505, 3) := by decide +kernel
theorem d_Mod_leave_26 : decode prog_13_method_53_code 26 = .ok (.aload_n 0, 1) := by decide +kernel
theorem d_Mod_leave_27 : decode prog_13_method_53_code 27 = .ok (.dup, 1) := by decide +kernel
theorem d_Mod_leave_28 : decode prog_13_method_53_code 28 = .ok (.getfield 492, 3) := by decide +kernel
theorem d_Mod_leave_31 : decode prog_13_method_53_code 31 = .ok (.iconst 1, 1) := by decide +kernel
theorem d_Mod_leave_32 : decode prog_13_method_53_code 32 = .ok (.isub, 1) := by decide +kernel
theorem d_Mod_leave_33 : decode prog_13_method_53_code 33 = .ok (.putfield 492, 3) := by decide +kernel
theorem d_Mod_leave_36 : decode prog_13_method_53_code 36 = .ok (.aload_n 0, 1) := by decide +kernel
theorem d_Mod_leave_37 : decode prog_13_method_53_code 37 = .ok (.getfield 492, 3) := by decide +kernel
theorem d_Mod_leave_40 : decode prog_13_method_53_code 40 = .ok (.ifCond .ne 18, 3) := by decide +kernel
theorem d_Mod_leave_43 : decode prog_13_method_53_code 43 = .ok (.aload_n 0, 1) := by decide +kernel
theorem d_Mod_leave_44 : decode prog_13_method_53_code 44 = .ok (.getfield 374, 3) := by decide +kernel
theorem d_Mod_leave_47 : decode prog_13_method_53_code 47 = .ok (.iconst 0, 1) := by decide +kernel
theorem d_Mod_leave_48 : decode prog_13_method_53_code 48 = .ok (.aload_n 0, 1) := by decide +kernel
theorem d_Mod_leave_49 : decode prog_13_method_53_code 49 = .ok (.getfield 377, 3) := by decide +kernel
theorem d_Mod_leave_52 : decode prog_13_method_53_code 52 = .ok (.iconst 0, 1) := by decide +kernel
theorem d_Mod_leave_53 : decode prog_13_method_53_code 53 = .ok (.invokevirtual 505, 3) := by decide +kernel
theorem d_Mod_leave_56 : decode prog_13_method_53_code 56 = .ok (.iconst 0, 1) := by decide +kernel
theorem d_Mod_leave_57 : decode prog_13_method_53_code 57 = .ok (.ireturn, 1) := by decide +kernel
theorem d_Mod_leave_58 : decode prog_13_method_53_code 58 = .ok (.aload_n 0, 1) := by decide +kernel
theorem d_Mod_leave_59 : decode prog_13_method_53_code 59 = .ok (.aload_n 0, 1) := by decide +kernel
theorem d_Mod_leave_60 : decode prog_13_method_53_code 60 = .ok (.getfield 386, 3) := by decide +kernel
theorem d_Mod_leave_63 : decode prog_13_method_53_code 63 = .ok (.aload_n 0, 1) := by decide +kernel
theorem d_Mod_leave_64 : decode prog_13_method_53_code 64 = .ok (.getfield 492, 3) := by decide +kernel
theorem d_Mod_leave_67 : decode prog_13_method_53_code 67 = .ok (.iaload, 1) := by decide +kernel
theorem d_Mod_leave_68 : decode prog_13_method_53_code 68 = .ok (.putfield 489, 3) := by decide +kernel
theorem d_Mod_leave_71 : decode prog_13_method_53_code 71 = .ok (.aload_n 0, 1) := by decide +kernel
theorem d_Mod_leave_72 : decode prog_13_method_53_code 72 = .ok (.aload_n 0, 1) := by decide +kernel
theorem d_Mod_leave_73 : decode prog_13_method_53_code 73 = .ok (.getfield 383, 3) := by decide +kernel
theorem d_Mod_leave_76 : decode prog_13_method_53_code 76 = .ok (.aload_n 0, 1) := by decide +kernel
theorem d_Mod_leave_77 : decode prog_13_method_53_code 77 = .ok (.getfield 492, 3) := by decide +kernel
theorem d_Mod_leave_80 : decode prog_13_method_53_code 80 = .ok (.iaload, 1) := by decide +kernel
theorem d_Mod_leave_81 : decode prog_13_method_53_code 81 = .ok (.putfield 502, 3) := by decide +kernel
theorem d_Mod_leave_84 : decode prog_13_method_53_code 84 = .ok (.aload_n 0, 1) := by decide +kernel
theorem d_Mod_leave_85 : decode prog_13_method_53_code 85 = .ok (.getfield 368, 3) := by decide +kernel
theorem d_Mod_leave_88 : decode prog_13_method_53_code 88 = .ok (.aload_n 0, 1) := by decide +kernel
theorem d_Mod_leave_89 : decode prog_13_method_53_code 89 = .ok (.getfield 486, 3) := by decide +kernel
theorem d_Mod_leave_92 : decode prog_13_method_53_code 92 = .ok (.aload_n 0, 1) := by decide +kernel
theorem d_Mod_leave_93 : decode prog_13_method_53_code 93 = .ok (.getfield 377, 3) := by decide +kernel
theorem d_Mod_leave_96 : decode prog_13_method_53_code 96 = .ok (.iconst 0, 1) := by decide +kernel
theorem d_Mod_leave_97 : decode prog_13_method_53_code 97 = .ok (.invokevirtual 505, 3) := by decide +kernel
theorem d_Mod_leave_100 : decode prog_13_method_53_code 100 = .ok (.aload_n 0, 1) := by decide +kernel
theorem d_Mod_leave_101 : decode prog_13_method_53_code 101 = .ok (.dup, 1) := by decide +kernel
theorem d_Mod_leave_102 : decode prog_13_method_53_code 102 = .ok (.getfield 486, 3) := by decide +kernel
theorem d_Mod_leave_105 : decode prog_13_method_53_code 105 = .ok (.iconst 1, 1) := by decide +kernel
theorem d_Mod_leave_106 : decode prog_13_method_53_code 106 = .ok (.iadd, 1) := by decide +kernel
theorem d_Mod_leave_107 : decode prog_13_method_53_code 107 = .ok (.putfield 486, 3) := by decide +kernel
theorem d_Mod_leave_110 : decode prog_13_method_53_code 110 = .ok (.iconst (-1), 1) := by decide +kernel
theorem d_Mod_leave_111 : decode prog_13_method_53_code 111 = .ok (.ireturn, 1) := by decide +kernel
abbrev m_Mod_push : am_M := (⟨"StowTongueModel", "push", "(IJ)V"⟩, prog_13_method_49_code, 4, none)
theorem d_Mod_push_0 : decode prog_13_method_49_code 0 = .ok (.aload_n 0, 1) := by decide +kernel
theorem d_Mod_push_1 : decode prog_13_method_49_code 1 = .ok (.getfield 368, 3) := by decide +kernel
theorem d_Mod_push_4 : decode prog_13_method_49_code 4 = .ok (.aload_n 0, 1) := by decide +kernel
theorem d_Mod_push_5 : decode prog_13_method_49_code 5 = .ok (.getfield 486, 3) := by decide +kernel
theorem d_Mod_push_8 : decode prog_13_method_49_code 8 = .ok (.iload_n 1, 1) := by decide +kernel
theorem d_Mod_push_9 : decode prog_13_method_49_code 9 = .ok (.iconst 0, 1) := by decide +kernel
theorem d_Mod_push_10 : decode prog_13_method_49_code 10 = .ok (.lload_n 2, 1) := by decide +kernel
theorem d_Mod_push_11 : decode prog_13_method_49_code 11 = .ok (.lconst 0, 1) := by decide +kernel
theorem d_Mod_push_12 : decode prog_13_method_49_code 12 = .ok (.invokevirtual 114, 3) := by decide +kernel
theorem d_Mod_push_15 : decode prog_13_method_49_code 15 = .ok (.aload_n 0, 1) := by decide +kernel
theorem d_Mod_push_16 : decode prog_13_method_49_code 16 = .ok (.dup, 1) := by decide +kernel
theorem d_Mod_push_17 : decode prog_13_method_49_code 17 = .ok (.getfield 486, 3) := by decide +kernel
theorem d_Mod_push_20 : decode prog_13_method_49_code 20 = .ok (.iconst 1, 1) := by decide +kernel
theorem d_Mod_push_21 : decode prog_13_method_49_code 21 = .ok (.iadd, 1) := by decide +kernel
theorem d_Mod_push_22 : decode prog_13_method_49_code 22 = .ok (.putfield 486, 3) := by decide +kernel
theorem d_Mod_push_25 : decode prog_13_method_49_code 25 = .ok (.return_, 1) := by decide +kernel
abbrev m_State_findField : am_M := (⟨"StowTongueModel$State", "findField", "(IJ)I"⟩, prog_15_method_5_code, 5, (some FieldType.int))
theorem d_State_findField_0 : decode prog_15_method_5_code 0 = .ok (.iconst 0, 1) := by decide +kernel
theorem d_State_findField_1 : decode prog_15_method_5_code 1 = .ok (.istore 4, 2) := by decide +kernel
theorem d_State_findField_3 : decode prog_15_method_5_code 3 = .ok (.iload 4, 2) := by decide +kernel
theorem d_State_findField_5 : decode prog_15_method_5_code 5 = .ok (.aload_n 0, 1) := by decide +kernel
theorem d_State_findField_6 : decode prog_15_method_5_code 6 = .ok (.getfield 15, 3) := by decide +kernel
theorem d_State_findField_9 : decode prog_15_method_5_code 9 = .ok (.iload_n 1, 1) := by decide +kernel
theorem d_State_findField_10 : decode prog_15_method_5_code 10 = .ok (.iaload, 1) := by decide +kernel
theorem d_State_findField_11 : decode prog_15_method_5_code 11 = .ok (.if_icmp .ge 29, 3) := by decide +kernel
theorem d_State_findField_40 : decode prog_15_method_5_code 40 = .ok (.iconst (-1), 1) := by decide +kernel
theorem d_State_findField_41 : decode prog_15_method_5_code 41 = .ok (.ireturn, 1) := by decide +kernel
theorem d_State_findField_14 : decode prog_15_method_5_code 14 = .ok (.aload_n 0, 1) := by decide +kernel
theorem d_State_findField_15 : decode prog_15_method_5_code 15 = .ok (.getfield 18, 3) := by decide +kernel
theorem d_State_findField_18 : decode prog_15_method_5_code 18 = .ok (.bipush 8, 2) := by decide +kernel
theorem d_State_findField_20 : decode prog_15_method_5_code 20 = .ok (.iload_n 1, 1) := by decide +kernel
theorem d_State_findField_21 : decode prog_15_method_5_code 21 = .ok (.imul, 1) := by decide +kernel
theorem d_State_findField_22 : decode prog_15_method_5_code 22 = .ok (.iload 4, 2) := by decide +kernel
theorem d_State_findField_24 : decode prog_15_method_5_code 24 = .ok (.iadd, 1) := by decide +kernel
theorem d_State_findField_25 : decode prog_15_method_5_code 25 = .ok (.laload, 1) := by decide +kernel
theorem d_State_findField_26 : decode prog_15_method_5_code 26 = .ok (.lload_n 2, 1) := by decide +kernel
theorem d_State_findField_27 : decode prog_15_method_5_code 27 = .ok (.lcmp, 1) := by decide +kernel
theorem d_State_findField_28 : decode prog_15_method_5_code 28 = .ok (.ifCond .ne 6, 3) := by decide +kernel
theorem d_State_findField_31 : decode prog_15_method_5_code 31 = .ok (.iload 4, 2) := by decide +kernel
theorem d_State_findField_33 : decode prog_15_method_5_code 33 = .ok (.ireturn, 1) := by decide +kernel
theorem d_State_findField_34 : decode prog_15_method_5_code 34 = .ok (.iinc 4 1, 3) := by decide +kernel
theorem d_State_findField_37 : decode prog_15_method_5_code 37 = .ok (.goto (-34), 3) := by decide +kernel
abbrev m_Mod_setField : am_M := (⟨"StowTongueModel", "setField", "(IJLStowTongueModel$Values;I)I"⟩, prog_13_method_56_code, 9, (some FieldType.int))
theorem d_Mod_setField_0 : decode prog_13_method_56_code 0 = .ok (.aload_n 0, 1) := by decide +kernel
theorem d_Mod_setField_1 : decode prog_13_method_56_code 1 = .ok (.getfield 353, 3) := by decide +kernel
theorem d_Mod_setField_4 : decode prog_13_method_56_code 4 = .ok (.iload_n 1, 1) := by decide +kernel
theorem d_Mod_setField_5 : decode prog_13_method_56_code 5 = .ok (.lload_n 2, 1) := by decide +kernel
theorem d_Mod_setField_6 : decode prog_13_method_56_code 6 = .ok (.invokevirtual 554, 3) := by decide +kernel
theorem w_2092 : (Cond.methodLink "StowTongueModel" 554 ⟨"StowTongueModel$State", "findField", "(IJ)I"⟩ : Cond) ∈ am_tbl := am_w 2092 (by decide +kernel) (by decide +kernel)
set_option maxRecDepth 100000 in
theorem w_2095 : (Cond.code ⟨"StowTongueModel$State", "findField", "(IJ)I"⟩ prog_15_method_5_code 5 (some FieldType.int) : Cond) ∈ am_tbl := am_w 2095 rfl rfl
theorem l_Mod_554 : am_L "StowTongueModel" 554 2 m_State_findField := ⟨Or.inl w_2092, w_163, w_2095, ⟨by decide, by decide⟩, by decide +kernel, by decide⟩
theorem w_2093 : (Cond.instanceMethod ⟨"StowTongueModel$State", "findField", "(IJ)I"⟩ : Cond) ∈ am_tbl := am_w 2093 (by decide +kernel) (by decide +kernel)
theorem w_2094 : (Cond.selects "StowTongueModel$State" ⟨"StowTongueModel$State", "findField", "(IJ)I"⟩ ⟨"StowTongueModel$State", "findField", "(IJ)I"⟩ : Cond) ∈ am_tbl := am_w 2094 (by decide +kernel) (by decide +kernel)
theorem d_Mod_setField_9 : decode prog_13_method_56_code 9 = .ok (.istore 6, 2) := by decide +kernel
theorem d_Mod_setField_11 : decode prog_13_method_56_code 11 = .ok (.bipush 20, 2) := by decide +kernel
theorem d_Mod_setField_13 : decode prog_13_method_56_code 13 = .ok (.iload_n 1, 1) := by decide +kernel
theorem d_Mod_setField_14 : decode prog_13_method_56_code 14 = .ok (.imul, 1) := by decide +kernel
theorem d_Mod_setField_15 : decode prog_13_method_56_code 15 = .ok (.istore 7, 2) := by decide +kernel
theorem d_Mod_setField_17 : decode prog_13_method_56_code 17 = .ok (.aload 4, 2) := by decide +kernel
theorem d_Mod_setField_19 : decode prog_13_method_56_code 19 = .ok (.getfield 515, 3) := by decide +kernel
theorem d_Mod_setField_22 : decode prog_13_method_56_code 22 = .ok (.iload 5, 2) := by decide +kernel
theorem d_Mod_setField_24 : decode prog_13_method_56_code 24 = .ok (.iaload, 1) := by decide +kernel
theorem d_Mod_setField_25 : decode prog_13_method_56_code 25 = .ok (.ifCond .ne 110, 3) := by decide +kernel
theorem d_Mod_setField_28 : decode prog_13_method_56_code 28 = .ok (.iload 6, 2) := by decide +kernel
theorem d_Mod_setField_30 : decode prog_13_method_56_code 30 = .ok (.ifCond .ge 5, 3) := by decide +kernel
theorem d_Mod_setField_35 : decode prog_13_method_56_code 35 = .ok (.aload_n 0, 1) := by decide +kernel
theorem d_Mod_setField_36 : decode prog_13_method_56_code 36 = .ok (.getfield 353, 3) := by decide +kernel
theorem d_Mod_setField_39 : decode prog_13_method_56_code 39 = .ok (.getfield 558, 3) := by decide +kernel
theorem w_1574 : (Cond.fieldLink "StowTongueModel" 558 "StowTongueModel$State" "size" "[I" : Cond) ∈ am_tbl := am_w 1574 (by decide +kernel) (by decide +kernel)
theorem f_Mod_558 : am_F "StowTongueModel" 558 13 1 := ⟨_, rfl, cl_13, by decide, Or.inl w_1574⟩
theorem d_Mod_setField_42 : decode prog_13_method_56_code 42 = .ok (.iload_n 1, 1) := by decide +kernel
theorem d_Mod_setField_43 : decode prog_13_method_56_code 43 = .ok (.dup2, 1) := by decide +kernel
theorem d_Mod_setField_44 : decode prog_13_method_56_code 44 = .ok (.iaload, 1) := by decide +kernel
theorem d_Mod_setField_45 : decode prog_13_method_56_code 45 = .ok (.iconst 1, 1) := by decide +kernel
theorem d_Mod_setField_46 : decode prog_13_method_56_code 46 = .ok (.isub, 1) := by decide +kernel
theorem d_Mod_setField_47 : decode prog_13_method_56_code 47 = .ok (.iastore, 1) := by decide +kernel
theorem d_Mod_setField_48 : decode prog_13_method_56_code 48 = .ok (.iload 6, 2) := by decide +kernel
theorem d_Mod_setField_50 : decode prog_13_method_56_code 50 = .ok (.istore 8, 2) := by decide +kernel
theorem d_Mod_setField_52 : decode prog_13_method_56_code 52 = .ok (.iload 8, 2) := by decide +kernel
theorem d_Mod_setField_54 : decode prog_13_method_56_code 54 = .ok (.aload_n 0, 1) := by decide +kernel
theorem d_Mod_setField_55 : decode prog_13_method_56_code 55 = .ok (.getfield 353, 3) := by decide +kernel
theorem d_Mod_setField_58 : decode prog_13_method_56_code 58 = .ok (.getfield 558, 3) := by decide +kernel
theorem d_Mod_setField_61 : decode prog_13_method_56_code 61 = .ok (.iload_n 1, 1) := by decide +kernel
theorem d_Mod_setField_62 : decode prog_13_method_56_code 62 = .ok (.iaload, 1) := by decide +kernel
theorem d_Mod_setField_63 : decode prog_13_method_56_code 63 = .ok (.if_icmp .ge 70, 3) := by decide +kernel
theorem d_Mod_setField_133 : decode prog_13_method_56_code 133 = .ok (.iconst (-1), 1) := by decide +kernel
theorem d_Mod_setField_134 : decode prog_13_method_56_code 134 = .ok (.ireturn, 1) := by decide +kernel
theorem d_Mod_setField_66 : decode prog_13_method_56_code 66 = .ok (.aload_n 0, 1) := by decide +kernel
theorem d_Mod_setField_67 : decode prog_13_method_56_code 67 = .ok (.getfield 353, 3) := by decide +kernel
theorem d_Mod_setField_70 : decode prog_13_method_56_code 70 = .ok (.getfield 560, 3) := by decide +kernel
theorem w_1576 : (Cond.fieldLink "StowTongueModel" 560 "StowTongueModel$State" "name" "[J" : Cond) ∈ am_tbl := am_w 1576 (by decide +kernel) (by decide +kernel)
theorem f_Mod_560 : am_F "StowTongueModel" 560 13 2 := ⟨_, rfl, cl_13, by decide, Or.inl w_1576⟩
theorem d_Mod_setField_73 : decode prog_13_method_56_code 73 = .ok (.bipush 8, 2) := by decide +kernel
theorem d_Mod_setField_75 : decode prog_13_method_56_code 75 = .ok (.iload_n 1, 1) := by decide +kernel
theorem d_Mod_setField_76 : decode prog_13_method_56_code 76 = .ok (.imul, 1) := by decide +kernel
theorem d_Mod_setField_77 : decode prog_13_method_56_code 77 = .ok (.iload 8, 2) := by decide +kernel
theorem d_Mod_setField_79 : decode prog_13_method_56_code 79 = .ok (.iadd, 1) := by decide +kernel
theorem d_Mod_setField_80 : decode prog_13_method_56_code 80 = .ok (.aload_n 0, 1) := by decide +kernel
theorem d_Mod_setField_81 : decode prog_13_method_56_code 81 = .ok (.getfield 353, 3) := by decide +kernel
theorem d_Mod_setField_84 : decode prog_13_method_56_code 84 = .ok (.getfield 560, 3) := by decide +kernel
theorem d_Mod_setField_87 : decode prog_13_method_56_code 87 = .ok (.bipush 8, 2) := by decide +kernel
theorem d_Mod_setField_89 : decode prog_13_method_56_code 89 = .ok (.iload_n 1, 1) := by decide +kernel
theorem d_Mod_setField_90 : decode prog_13_method_56_code 90 = .ok (.imul, 1) := by decide +kernel
theorem d_Mod_setField_91 : decode prog_13_method_56_code 91 = .ok (.iload 8, 2) := by decide +kernel
theorem d_Mod_setField_93 : decode prog_13_method_56_code 93 = .ok (.iadd, 1) := by decide +kernel
theorem d_Mod_setField_94 : decode prog_13_method_56_code 94 = .ok (.iconst 1, 1) := by decide +kernel
theorem d_Mod_setField_95 : decode prog_13_method_56_code 95 = .ok (.iadd, 1) := by decide +kernel
theorem d_Mod_setField_96 : decode prog_13_method_56_code 96 = .ok (.laload, 1) := by decide +kernel
theorem d_Mod_setField_97 : decode prog_13_method_56_code 97 = .ok (.lastore, 1) := by decide +kernel
theorem d_Mod_setField_98 : decode prog_13_method_56_code 98 = .ok (.aload_n 0, 1) := by decide +kernel
theorem d_Mod_setField_99 : decode prog_13_method_56_code 99 = .ok (.getfield 353, 3) := by decide +kernel
theorem d_Mod_setField_102 : decode prog_13_method_56_code 102 = .ok (.getfield 562, 3) := by decide +kernel
theorem w_1582 : (Cond.fieldLink "StowTongueModel" 562 "StowTongueModel$State" "item" "LStowTongueModel$Values;" : Cond) ∈ am_tbl := am_w 1582 (by decide +kernel) (by decide +kernel)
theorem f_Mod_562 : am_F "StowTongueModel" 562 13 5 := ⟨_, rfl, cl_13, by decide, Or.inl w_1582⟩
theorem d_Mod_setField_105 : decode prog_13_method_56_code 105 = .ok (.iload 7, 2) := by decide +kernel
theorem d_Mod_setField_107 : decode prog_13_method_56_code 107 = .ok (.iload 8, 2) := by decide +kernel
theorem d_Mod_setField_109 : decode prog_13_method_56_code 109 = .ok (.iadd, 1) := by decide +kernel
theorem d_Mod_setField_110 : decode prog_13_method_56_code 110 = .ok (.aload_n 0, 1) := by decide +kernel
theorem d_Mod_setField_111 : decode prog_13_method_56_code 111 = .ok (.getfield 353, 3) := by decide +kernel
theorem d_Mod_setField_114 : decode prog_13_method_56_code 114 = .ok (.getfield 562, 3) := by decide +kernel
theorem d_Mod_setField_117 : decode prog_13_method_56_code 117 = .ok (.iload 7, 2) := by decide +kernel
theorem d_Mod_setField_119 : decode prog_13_method_56_code 119 = .ok (.iload 8, 2) := by decide +kernel
theorem d_Mod_setField_121 : decode prog_13_method_56_code 121 = .ok (.iadd, 1) := by decide +kernel
theorem d_Mod_setField_122 : decode prog_13_method_56_code 122 = .ok (.iconst 1, 1) := by decide +kernel
theorem d_Mod_setField_123 : decode prog_13_method_56_code 123 = .ok (.iadd, 1) := by decide +kernel
theorem d_Mod_setField_124 : decode prog_13_method_56_code 124 = .ok (.invokevirtual 505, 3) := by decide +kernel
theorem d_Mod_setField_127 : decode prog_13_method_56_code 127 = .ok (.iinc 8 1, 3) := by decide +kernel
theorem d_Mod_setField_130 : decode prog_13_method_56_code 130 = .ok (.goto (-78), 3) := by decide +kernel
theorem d_Mod_setField_33 : decode prog_13_method_56_code 33 = .ok (.iconst (-1), 1) := by decide +kernel
theorem d_Mod_setField_34 : decode prog_13_method_56_code 34 = .ok (.ireturn, 1) := by decide +kernel
theorem d_Mod_setField_135 : decode prog_13_method_56_code 135 = .ok (.iload 6, 2) := by decide +kernel
theorem d_Mod_setField_137 : decode prog_13_method_56_code 137 = .ok (.ifCond .ge 59, 3) := by decide +kernel
theorem d_Mod_setField_196 : decode prog_13_method_56_code 196 = .ok (.aload_n 0, 1) := by decide +kernel
theorem d_Mod_setField_197 : decode prog_13_method_56_code 197 = .ok (.getfield 353, 3) := by decide +kernel
theorem d_Mod_setField_200 : decode prog_13_method_56_code 200 = .ok (.getfield 562, 3) := by decide +kernel
theorem d_Mod_setField_203 : decode prog_13_method_56_code 203 = .ok (.iload 7, 2) := by decide +kernel
theorem d_Mod_setField_205 : decode prog_13_method_56_code 205 = .ok (.iload 6, 2) := by decide +kernel
theorem d_Mod_setField_207 : decode prog_13_method_56_code 207 = .ok (.iadd, 1) := by decide +kernel
theorem d_Mod_setField_208 : decode prog_13_method_56_code 208 = .ok (.aload 4, 2) := by decide +kernel
theorem d_Mod_setField_210 : decode prog_13_method_56_code 210 = .ok (.iload 5, 2) := by decide +kernel
theorem d_Mod_setField_212 : decode prog_13_method_56_code 212 = .ok (.invokevirtual 505, 3) := by decide +kernel
theorem d_Mod_setField_215 : decode prog_13_method_56_code 215 = .ok (.iconst (-1), 1) := by decide +kernel
theorem d_Mod_setField_216 : decode prog_13_method_56_code 216 = .ok (.ireturn, 1) := by decide +kernel
theorem d_Mod_setField_140 : decode prog_13_method_56_code 140 = .ok (.aload_n 0, 1) := by decide +kernel
theorem d_Mod_setField_141 : decode prog_13_method_56_code 141 = .ok (.getfield 353, 3) := by decide +kernel
theorem d_Mod_setField_144 : decode prog_13_method_56_code 144 = .ok (.getfield 558, 3) := by decide +kernel
theorem d_Mod_setField_147 : decode prog_13_method_56_code 147 = .ok (.iload_n 1, 1) := by decide +kernel
theorem d_Mod_setField_148 : decode prog_13_method_56_code 148 = .ok (.iaload, 1) := by decide +kernel
theorem d_Mod_setField_149 : decode prog_13_method_56_code 149 = .ok (.bipush 8, 2) := by decide +kernel
theorem d_Mod_setField_151 : decode prog_13_method_56_code 151 = .ok (.if_icmp .ne 5, 3) := by decide +kernel
theorem d_Mod_setField_154 : decode prog_13_method_56_code 154 = .ok (.iconst 4, 1) := by decide +kernel
theorem d_Mod_setField_155 : decode prog_13_method_56_code 155 = .ok (.ireturn, 1) := by decide +kernel
theorem d_Mod_setField_156 : decode prog_13_method_56_code 156 = .ok (.aload_n 0, 1) := by decide +kernel
theorem d_Mod_setField_157 : decode prog_13_method_56_code 157 = .ok (.getfield 353, 3) := by decide +kernel
theorem d_Mod_setField_160 : decode prog_13_method_56_code 160 = .ok (.getfield 558, 3) := by decide +kernel
theorem d_Mod_setField_163 : decode prog_13_method_56_code 163 = .ok (.iload_n 1, 1) := by decide +kernel
theorem d_Mod_setField_164 : decode prog_13_method_56_code 164 = .ok (.iaload, 1) := by decide +kernel
theorem d_Mod_setField_165 : decode prog_13_method_56_code 165 = .ok (.istore 6, 2) := by decide +kernel
theorem d_Mod_setField_167 : decode prog_13_method_56_code 167 = .ok (.aload_n 0, 1) := by decide +kernel
theorem d_Mod_setField_168 : decode prog_13_method_56_code 168 = .ok (.getfield 353, 3) := by decide +kernel
theorem d_Mod_setField_171 : decode prog_13_method_56_code 171 = .ok (.getfield 558, 3) := by decide +kernel
theorem d_Mod_setField_174 : decode prog_13_method_56_code 174 = .ok (.iload_n 1, 1) := by decide +kernel
theorem d_Mod_setField_175 : decode prog_13_method_56_code 175 = .ok (.dup2, 1) := by decide +kernel
theorem d_Mod_setField_176 : decode prog_13_method_56_code 176 = .ok (.iaload, 1) := by decide +kernel
theorem d_Mod_setField_177 : decode prog_13_method_56_code 177 = .ok (.iconst 1, 1) := by decide +kernel
theorem d_Mod_setField_178 : decode prog_13_method_56_code 178 = .ok (.iadd, 1) := by decide +kernel
theorem d_Mod_setField_179 : decode prog_13_method_56_code 179 = .ok (.iastore, 1) := by decide +kernel
theorem d_Mod_setField_180 : decode prog_13_method_56_code 180 = .ok (.aload_n 0, 1) := by decide +kernel
theorem d_Mod_setField_181 : decode prog_13_method_56_code 181 = .ok (.getfield 353, 3) := by decide +kernel
theorem d_Mod_setField_184 : decode prog_13_method_56_code 184 = .ok (.getfield 560, 3) := by decide +kernel
theorem d_Mod_setField_187 : decode prog_13_method_56_code 187 = .ok (.bipush 8, 2) := by decide +kernel
theorem d_Mod_setField_189 : decode prog_13_method_56_code 189 = .ok (.iload_n 1, 1) := by decide +kernel
theorem d_Mod_setField_190 : decode prog_13_method_56_code 190 = .ok (.imul, 1) := by decide +kernel
theorem d_Mod_setField_191 : decode prog_13_method_56_code 191 = .ok (.iload 6, 2) := by decide +kernel
theorem d_Mod_setField_193 : decode prog_13_method_56_code 193 = .ok (.iadd, 1) := by decide +kernel
theorem d_Mod_setField_194 : decode prog_13_method_56_code 194 = .ok (.lload_n 2, 1) := by decide +kernel
theorem d_Mod_setField_195 : decode prog_13_method_56_code 195 = .ok (.lastore, 1) := by decide +kernel
abbrev m_Mod_placeOf : am_M := (⟨"StowTongueModel", "placeOf", "(IIZ)I"⟩, prog_13_method_57_code, 6, (some FieldType.int))
theorem d_Mod_placeOf_0 : decode prog_13_method_57_code 0 = .ok (.aload_n 0, 1) := by decide +kernel
theorem d_Mod_placeOf_1 : decode prog_13_method_57_code 1 = .ok (.getfield 368, 3) := by decide +kernel
theorem d_Mod_placeOf_4 : decode prog_13_method_57_code 4 = .ok (.getfield 515, 3) := by decide +kernel
theorem d_Mod_placeOf_7 : decode prog_13_method_57_code 7 = .ok (.iload_n 1, 1) := by decide +kernel
theorem d_Mod_placeOf_8 : decode prog_13_method_57_code 8 = .ok (.iaload, 1) := by decide +kernel
theorem d_Mod_placeOf_9 : decode prog_13_method_57_code 9 = .ok (.iconst 4, 1) := by decide +kernel
theorem d_Mod_placeOf_10 : decode prog_13_method_57_code 10 = .ok (.if_icmp .ne 7, 3) := by decide +kernel
theorem d_Mod_placeOf_13 : decode prog_13_method_57_code 13 = .ok (.iconst 1, 1) := by decide +kernel
theorem d_Mod_placeOf_14 : decode prog_13_method_57_code 14 = .ok (.goto 4, 3) := by decide +kernel
theorem d_Mod_placeOf_18 : decode prog_13_method_57_code 18 = .ok (.istore 4, 2) := by decide +kernel
theorem d_Mod_placeOf_20 : decode prog_13_method_57_code 20 = .ok (.iload 4, 2) := by decide +kernel
theorem d_Mod_placeOf_22 : decode prog_13_method_57_code 22 = .ok (.ifCond .ne 20, 3) := by decide +kernel
theorem d_Mod_placeOf_25 : decode prog_13_method_57_code 25 = .ok (.iload_n 3, 1) := by decide +kernel
theorem d_Mod_placeOf_26 : decode prog_13_method_57_code 26 = .ok (.ifCond .eq 29, 3) := by decide +kernel
theorem d_Mod_placeOf_55 : decode prog_13_method_57_code 55 = .ok (.bipush (-3), 2) := by decide +kernel
theorem d_Mod_placeOf_57 : decode prog_13_method_57_code 57 = .ok (.ireturn, 1) := by decide +kernel
theorem d_Mod_placeOf_29 : decode prog_13_method_57_code 29 = .ok (.aload_n 0, 1) := by decide +kernel
theorem d_Mod_placeOf_30 : decode prog_13_method_57_code 30 = .ok (.getfield 368, 3) := by decide +kernel
theorem d_Mod_placeOf_33 : decode prog_13_method_57_code 33 = .ok (.getfield 515, 3) := by decide +kernel
theorem d_Mod_placeOf_36 : decode prog_13_method_57_code 36 = .ok (.iload_n 1, 1) := by decide +kernel
theorem d_Mod_placeOf_37 : decode prog_13_method_57_code 37 = .ok (.iaload, 1) := by decide +kernel
theorem d_Mod_placeOf_38 : decode prog_13_method_57_code 38 = .ok (.iconst 2, 1) := by decide +kernel
theorem d_Mod_placeOf_39 : decode prog_13_method_57_code 39 = .ok (.if_icmp .ne 16, 3) := by decide +kernel
theorem d_Mod_placeOf_42 : decode prog_13_method_57_code 42 = .ok (.aload_n 0, 1) := by decide +kernel
theorem d_Mod_placeOf_43 : decode prog_13_method_57_code 43 = .ok (.getfield 368, 3) := by decide +kernel
theorem d_Mod_placeOf_46 : decode prog_13_method_57_code 46 = .ok (.getfield 515, 3) := by decide +kernel
theorem d_Mod_placeOf_49 : decode prog_13_method_57_code 49 = .ok (.iload_n 2, 1) := by decide +kernel
theorem d_Mod_placeOf_50 : decode prog_13_method_57_code 50 = .ok (.iaload, 1) := by decide +kernel
theorem d_Mod_placeOf_51 : decode prog_13_method_57_code 51 = .ok (.iconst 1, 1) := by decide +kernel
theorem d_Mod_placeOf_52 : decode prog_13_method_57_code 52 = .ok (.if_icmp .eq 6, 3) := by decide +kernel
theorem d_Mod_placeOf_58 : decode prog_13_method_57_code 58 = .ok (.iload 4, 2) := by decide +kernel
theorem d_Mod_placeOf_60 : decode prog_13_method_57_code 60 = .ok (.ifCond .eq 24, 3) := by decide +kernel
theorem d_Mod_placeOf_84 : decode prog_13_method_57_code 84 = .ok (.aload_n 0, 1) := by decide +kernel
theorem d_Mod_placeOf_85 : decode prog_13_method_57_code 85 = .ok (.getfield 368, 3) := by decide +kernel
theorem d_Mod_placeOf_88 : decode prog_13_method_57_code 88 = .ok (.getfield 565, 3) := by decide +kernel
theorem w_1506 : (Cond.fieldLink "StowTongueModel" 565 "StowTongueModel$Values" "size" "[I" : Cond) ∈ am_tbl := am_w 1506 (by decide +kernel) (by decide +kernel)
theorem f_Mod_565 : am_F "StowTongueModel" 565 11 1 := ⟨_, rfl, cl_11, by decide, Or.inl w_1506⟩
theorem d_Mod_placeOf_91 : decode prog_13_method_57_code 91 = .ok (.iload_n 1, 1) := by decide +kernel
theorem d_Mod_placeOf_92 : decode prog_13_method_57_code 92 = .ok (.iaload, 1) := by decide +kernel
theorem d_Mod_placeOf_93 : decode prog_13_method_57_code 93 = .ok (.istore 5, 2) := by decide +kernel
theorem d_Mod_placeOf_95 : decode prog_13_method_57_code 95 = .ok (.aload_n 0, 1) := by decide +kernel
theorem d_Mod_placeOf_96 : decode prog_13_method_57_code 96 = .ok (.getfield 368, 3) := by decide +kernel
theorem d_Mod_placeOf_99 : decode prog_13_method_57_code 99 = .ok (.getfield 508, 3) := by decide +kernel
theorem d_Mod_placeOf_102 : decode prog_13_method_57_code 102 = .ok (.iload_n 2, 1) := by decide +kernel
theorem d_Mod_placeOf_103 : decode prog_13_method_57_code 103 = .ok (.laload, 1) := by decide +kernel
theorem d_Mod_placeOf_104 : decode prog_13_method_57_code 104 = .ok (.lconst 0, 1) := by decide +kernel
theorem d_Mod_placeOf_105 : decode prog_13_method_57_code 105 = .ok (.iload 5, 2) := by decide +kernel
theorem d_Mod_placeOf_107 : decode prog_13_method_57_code 107 = .ok (.iconst 1, 1) := by decide +kernel
theorem d_Mod_placeOf_108 : decode prog_13_method_57_code 108 = .ok (.isub, 1) := by decide +kernel
theorem d_Mod_placeOf_109 : decode prog_13_method_57_code 109 = .ok (.i2l, 1) := by decide +kernel
theorem d_Mod_placeOf_110 : decode prog_13_method_57_code 110 = .ok (.invokestatic 70, 3) := by decide +kernel
theorem w_1790 : (Cond.methodLink "StowTongueModel" 70 ⟨"StowTongueModel", "in", "(JJJ)Z"⟩ : Cond) ∈ am_tbl := am_w 1790 (by decide +kernel) (by decide +kernel)
set_option maxRecDepth 100000 in
theorem w_1792 : (Cond.code ⟨"StowTongueModel", "in", "(JJJ)Z"⟩ prog_13_method_1_code 6 (some FieldType.boolean) : Cond) ∈ am_tbl := am_w 1792 rfl rfl
theorem l_Mod_70 : am_L "StowTongueModel" 70 3 m_Mod_in := ⟨Or.inl w_1790, w_160, w_1792, ⟨by decide, by decide⟩, by decide +kernel, by decide⟩
theorem w_1791 : (Cond.static ⟨"StowTongueModel", "in", "(JJJ)Z"⟩ : Cond) ∈ am_tbl := am_w 1791 (by decide +kernel) (by decide +kernel)
theorem d_Mod_placeOf_113 : decode prog_13_method_57_code 113 = .ok (.ifCond .eq 16, 3) := by decide +kernel
theorem d_Mod_placeOf_129 : decode prog_13_method_57_code 129 = .ok (.bipush (-4), 2) := by decide +kernel
theorem d_Mod_placeOf_131 : decode prog_13_method_57_code 131 = .ok (.ireturn, 1) := by decide +kernel
theorem d_Mod_placeOf_116 : decode prog_13_method_57_code 116 = .ok (.aload_n 0, 1) := by decide +kernel
theorem d_Mod_placeOf_117 : decode prog_13_method_57_code 117 = .ok (.getfield 368, 3) := by decide +kernel
theorem d_Mod_placeOf_120 : decode prog_13_method_57_code 120 = .ok (.getfield 508, 3) := by decide +kernel
theorem d_Mod_placeOf_123 : decode prog_13_method_57_code 123 = .ok (.iload_n 2, 1) := by decide +kernel
theorem d_Mod_placeOf_124 : decode prog_13_method_57_code 124 = .ok (.laload, 1) := by decide +kernel
theorem d_Mod_placeOf_125 : decode prog_13_method_57_code 125 = .ok (.l2i, 1) := by decide +kernel
theorem d_Mod_placeOf_126 : decode prog_13_method_57_code 126 = .ok (.goto 5, 3) := by decide +kernel
theorem d_Mod_placeOf_63 : decode prog_13_method_57_code 63 = .ok (.aload_n 0, 1) := by decide +kernel
theorem d_Mod_placeOf_64 : decode prog_13_method_57_code 64 = .ok (.getfield 353, 3) := by decide +kernel
theorem d_Mod_placeOf_67 : decode prog_13_method_57_code 67 = .ok (.getfield 558, 3) := by decide +kernel
theorem d_Mod_placeOf_70 : decode prog_13_method_57_code 70 = .ok (.aload_n 0, 1) := by decide +kernel
theorem d_Mod_placeOf_71 : decode prog_13_method_57_code 71 = .ok (.getfield 368, 3) := by decide +kernel
theorem d_Mod_placeOf_74 : decode prog_13_method_57_code 74 = .ok (.getfield 508, 3) := by decide +kernel
theorem d_Mod_placeOf_77 : decode prog_13_method_57_code 77 = .ok (.iload_n 1, 1) := by decide +kernel
theorem d_Mod_placeOf_78 : decode prog_13_method_57_code 78 = .ok (.laload, 1) := by decide +kernel
theorem d_Mod_placeOf_79 : decode prog_13_method_57_code 79 = .ok (.l2i, 1) := by decide +kernel
theorem d_Mod_placeOf_80 : decode prog_13_method_57_code 80 = .ok (.iaload, 1) := by decide +kernel
theorem d_Mod_placeOf_81 : decode prog_13_method_57_code 81 = .ok (.goto 12, 3) := by decide +kernel
theorem d_Mod_placeOf_17 : decode prog_13_method_57_code 17 = .ok (.iconst 0, 1) := by decide +kernel
abbrev m_Mod_order : am_M := (⟨"StowTongueModel", "order", "(II)I"⟩, prog_13_method_61_code, 5, (some FieldType.int))
theorem d_Mod_order_0 : decode prog_13_method_61_code 0 = .ok (.aload_n 0, 1) := by decide +kernel
theorem d_Mod_order_1 : decode prog_13_method_61_code 1 = .ok (.getfield 368, 3) := by decide +kernel
theorem d_Mod_order_4 : decode prog_13_method_61_code 4 = .ok (.getfield 565, 3) := by decide +kernel
theorem d_Mod_order_7 : decode prog_13_method_61_code 7 = .ok (.iload_n 1, 1) := by decide +kernel
theorem d_Mod_order_8 : decode prog_13_method_61_code 8 = .ok (.iaload, 1) := by decide +kernel
theorem d_Mod_order_9 : decode prog_13_method_61_code 9 = .ok (.aload_n 0, 1) := by decide +kernel
theorem d_Mod_order_10 : decode prog_13_method_61_code 10 = .ok (.getfield 368, 3) := by decide +kernel
theorem d_Mod_order_13 : decode prog_13_method_61_code 13 = .ok (.getfield 565, 3) := by decide +kernel
theorem d_Mod_order_16 : decode prog_13_method_61_code 16 = .ok (.iload_n 2, 1) := by decide +kernel
theorem d_Mod_order_17 : decode prog_13_method_61_code 17 = .ok (.iaload, 1) := by decide +kernel
theorem d_Mod_order_18 : decode prog_13_method_61_code 18 = .ok (.invokestatic 584, 3) := by decide +kernel
theorem w_2116 : (Cond.methodLink "StowTongueModel" 584 ⟨"java/lang/Math", "min", "(II)I"⟩ : Cond) ∈ am_tbl := am_w 2116 (by decide +kernel) (by decide +kernel)
theorem d_Mod_order_21 : decode prog_13_method_61_code 21 = .ok (.istore_n 3, 1) := by decide +kernel
theorem d_Mod_order_22 : decode prog_13_method_61_code 22 = .ok (.iconst 0, 1) := by decide +kernel
theorem d_Mod_order_23 : decode prog_13_method_61_code 23 = .ok (.istore 4, 2) := by decide +kernel
theorem d_Mod_order_25 : decode prog_13_method_61_code 25 = .ok (.iload 4, 2) := by decide +kernel
theorem d_Mod_order_27 : decode prog_13_method_61_code 27 = .ok (.iload_n 3, 1) := by decide +kernel
theorem d_Mod_order_28 : decode prog_13_method_61_code 28 = .ok (.if_icmp .ge 54, 3) := by decide +kernel
theorem d_Mod_order_82 : decode prog_13_method_61_code 82 = .ok (.aload_n 0, 1) := by decide +kernel
theorem d_Mod_order_83 : decode prog_13_method_61_code 83 = .ok (.getfield 368, 3) := by decide +kernel
theorem d_Mod_order_86 : decode prog_13_method_61_code 86 = .ok (.getfield 565, 3) := by decide +kernel
theorem d_Mod_order_89 : decode prog_13_method_61_code 89 = .ok (.iload_n 1, 1) := by decide +kernel
theorem d_Mod_order_90 : decode prog_13_method_61_code 90 = .ok (.iaload, 1) := by decide +kernel
theorem d_Mod_order_91 : decode prog_13_method_61_code 91 = .ok (.aload_n 0, 1) := by decide +kernel
theorem d_Mod_order_92 : decode prog_13_method_61_code 92 = .ok (.getfield 368, 3) := by decide +kernel
theorem d_Mod_order_95 : decode prog_13_method_61_code 95 = .ok (.getfield 565, 3) := by decide +kernel
theorem d_Mod_order_98 : decode prog_13_method_61_code 98 = .ok (.iload_n 2, 1) := by decide +kernel
theorem d_Mod_order_99 : decode prog_13_method_61_code 99 = .ok (.iaload, 1) := by decide +kernel
theorem d_Mod_order_100 : decode prog_13_method_61_code 100 = .ok (.isub, 1) := by decide +kernel
theorem d_Mod_order_101 : decode prog_13_method_61_code 101 = .ok (.ireturn, 1) := by decide +kernel
theorem d_Mod_order_31 : decode prog_13_method_61_code 31 = .ok (.aload_n 0, 1) := by decide +kernel
theorem d_Mod_order_32 : decode prog_13_method_61_code 32 = .ok (.getfield 368, 3) := by decide +kernel
theorem d_Mod_order_35 : decode prog_13_method_61_code 35 = .ok (.iload_n 1, 1) := by decide +kernel
theorem d_Mod_order_36 : decode prog_13_method_61_code 36 = .ok (.iload 4, 2) := by decide +kernel
theorem d_Mod_order_38 : decode prog_13_method_61_code 38 = .ok (.invokevirtual 574, 3) := by decide +kernel
theorem w_2072 : (Cond.methodLink "StowTongueModel" 574 ⟨"StowTongueModel$Values", "sign", "(II)I"⟩ : Cond) ∈ am_tbl := am_w 2072 (by decide +kernel) (by decide +kernel)
set_option maxRecDepth 100000 in
theorem w_2075 : (Cond.code ⟨"StowTongueModel$Values", "sign", "(II)I"⟩ prog_16_method_5_code 3 (some FieldType.int) : Cond) ∈ am_tbl := am_w 2075 rfl rfl
theorem l_Mod_574 : am_L "StowTongueModel" 574 2 m_Vals_sign := ⟨Or.inl w_2072, w_162, w_2075, ⟨by decide, by decide⟩, by decide +kernel, by decide⟩
theorem w_2073 : (Cond.instanceMethod ⟨"StowTongueModel$Values", "sign", "(II)I"⟩ : Cond) ∈ am_tbl := am_w 2073 (by decide +kernel) (by decide +kernel)
theorem w_2074 : (Cond.selects "StowTongueModel$Values" ⟨"StowTongueModel$Values", "sign", "(II)I"⟩ ⟨"StowTongueModel$Values", "sign", "(II)I"⟩ : Cond) ∈ am_tbl := am_w 2074 (by decide +kernel) (by decide +kernel)
theorem d_Mod_order_41 : decode prog_13_method_61_code 41 = .ok (.aload_n 0, 1) := by decide +kernel
theorem d_Mod_order_42 : decode prog_13_method_61_code 42 = .ok (.getfield 368, 3) := by decide +kernel
theorem d_Mod_order_45 : decode prog_13_method_61_code 45 = .ok (.iload_n 2, 1) := by decide +kernel
theorem d_Mod_order_46 : decode prog_13_method_61_code 46 = .ok (.iload 4, 2) := by decide +kernel
theorem d_Mod_order_48 : decode prog_13_method_61_code 48 = .ok (.invokevirtual 574, 3) := by decide +kernel
theorem d_Mod_order_51 : decode prog_13_method_61_code 51 = .ok (.if_icmp .eq 25, 3) := by decide +kernel
theorem d_Mod_order_76 : decode prog_13_method_61_code 76 = .ok (.iinc 4 1, 3) := by decide +kernel
theorem d_Mod_order_79 : decode prog_13_method_61_code 79 = .ok (.goto (-54), 3) := by decide +kernel
theorem d_Mod_order_54 : decode prog_13_method_61_code 54 = .ok (.aload_n 0, 1) := by decide +kernel
theorem d_Mod_order_55 : decode prog_13_method_61_code 55 = .ok (.getfield 368, 3) := by decide +kernel
theorem d_Mod_order_58 : decode prog_13_method_61_code 58 = .ok (.iload_n 1, 1) := by decide +kernel
theorem d_Mod_order_59 : decode prog_13_method_61_code 59 = .ok (.iload 4, 2) := by decide +kernel
theorem d_Mod_order_61 : decode prog_13_method_61_code 61 = .ok (.invokevirtual 574, 3) := by decide +kernel
theorem d_Mod_order_64 : decode prog_13_method_61_code 64 = .ok (.aload_n 0, 1) := by decide +kernel
theorem d_Mod_order_65 : decode prog_13_method_61_code 65 = .ok (.getfield 368, 3) := by decide +kernel
theorem d_Mod_order_68 : decode prog_13_method_61_code 68 = .ok (.iload_n 2, 1) := by decide +kernel
theorem d_Mod_order_69 : decode prog_13_method_61_code 69 = .ok (.iload 4, 2) := by decide +kernel
theorem d_Mod_order_71 : decode prog_13_method_61_code 71 = .ok (.invokevirtual 574, 3) := by decide +kernel
theorem d_Mod_order_74 : decode prog_13_method_61_code 74 = .ok (.isub, 1) := by decide +kernel
theorem d_Mod_order_75 : decode prog_13_method_61_code 75 = .ok (.ireturn, 1) := by decide +kernel
abbrev m_Mod_join : am_M := (⟨"StowTongueModel", "join", "(II)I"⟩, prog_13_method_63_code, 4, (some FieldType.int))
theorem d_Mod_join_0 : decode prog_13_method_63_code 0 = .ok (.aload_n 0, 1) := by decide +kernel
theorem d_Mod_join_1 : decode prog_13_method_63_code 1 = .ok (.getfield 368, 3) := by decide +kernel
theorem d_Mod_join_4 : decode prog_13_method_63_code 4 = .ok (.getfield 565, 3) := by decide +kernel
theorem d_Mod_join_7 : decode prog_13_method_63_code 7 = .ok (.iload_n 1, 1) := by decide +kernel
theorem d_Mod_join_8 : decode prog_13_method_63_code 8 = .ok (.iaload, 1) := by decide +kernel
theorem d_Mod_join_9 : decode prog_13_method_63_code 9 = .ok (.aload_n 0, 1) := by decide +kernel
theorem d_Mod_join_10 : decode prog_13_method_63_code 10 = .ok (.getfield 368, 3) := by decide +kernel
theorem d_Mod_join_13 : decode prog_13_method_63_code 13 = .ok (.getfield 565, 3) := by decide +kernel
theorem d_Mod_join_16 : decode prog_13_method_63_code 16 = .ok (.iload_n 2, 1) := by decide +kernel
theorem d_Mod_join_17 : decode prog_13_method_63_code 17 = .ok (.iaload, 1) := by decide +kernel
theorem d_Mod_join_18 : decode prog_13_method_63_code 18 = .ok (.iadd, 1) := by decide +kernel
theorem d_Mod_join_19 : decode prog_13_method_63_code 19 = .ok (.bipush 16, 2) := by decide +kernel
theorem d_Mod_join_21 : decode prog_13_method_63_code 21 = .ok (.if_icmp .le 5, 3) := by decide +kernel
theorem d_Mod_join_26 : decode prog_13_method_63_code 26 = .ok (.iconst 0, 1) := by decide +kernel
theorem d_Mod_join_27 : decode prog_13_method_63_code 27 = .ok (.istore_n 3, 1) := by decide +kernel
theorem d_Mod_join_28 : decode prog_13_method_63_code 28 = .ok (.iload_n 3, 1) := by decide +kernel
theorem d_Mod_join_29 : decode prog_13_method_63_code 29 = .ok (.aload_n 0, 1) := by decide +kernel
theorem d_Mod_join_30 : decode prog_13_method_63_code 30 = .ok (.getfield 368, 3) := by decide +kernel
theorem d_Mod_join_33 : decode prog_13_method_63_code 33 = .ok (.getfield 565, 3) := by decide +kernel
theorem d_Mod_join_36 : decode prog_13_method_63_code 36 = .ok (.iload_n 2, 1) := by decide +kernel
theorem d_Mod_join_37 : decode prog_13_method_63_code 37 = .ok (.iaload, 1) := by decide +kernel
theorem d_Mod_join_38 : decode prog_13_method_63_code 38 = .ok (.if_icmp .ge 26, 3) := by decide +kernel
theorem d_Mod_join_64 : decode prog_13_method_63_code 64 = .ok (.iconst (-1), 1) := by decide +kernel
theorem d_Mod_join_65 : decode prog_13_method_63_code 65 = .ok (.ireturn, 1) := by decide +kernel
theorem d_Mod_join_41 : decode prog_13_method_63_code 41 = .ok (.aload_n 0, 1) := by decide +kernel
theorem d_Mod_join_42 : decode prog_13_method_63_code 42 = .ok (.getfield 368, 3) := by decide +kernel
theorem d_Mod_join_45 : decode prog_13_method_63_code 45 = .ok (.iload_n 1, 1) := by decide +kernel
theorem d_Mod_join_46 : decode prog_13_method_63_code 46 = .ok (.aload_n 0, 1) := by decide +kernel
theorem d_Mod_join_47 : decode prog_13_method_63_code 47 = .ok (.getfield 368, 3) := by decide +kernel
theorem d_Mod_join_50 : decode prog_13_method_63_code 50 = .ok (.iload_n 2, 1) := by decide +kernel
theorem d_Mod_join_51 : decode prog_13_method_63_code 51 = .ok (.iload_n 3, 1) := by decide +kernel
theorem d_Mod_join_52 : decode prog_13_method_63_code 52 = .ok (.invokevirtual 574, 3) := by decide +kernel
theorem d_Mod_join_55 : decode prog_13_method_63_code 55 = .ok (.invokevirtual 308, 3) := by decide +kernel
theorem w_1921 : (Cond.methodLink "StowTongueModel" 308 ⟨"StowTongueModel$Values", "add", "(II)V"⟩ : Cond) ∈ am_tbl := am_w 1921 (by decide +kernel) (by decide +kernel)
set_option maxRecDepth 100000 in
theorem w_1924 : (Cond.code ⟨"StowTongueModel$Values", "add", "(II)V"⟩ prog_16_method_6_code 5 none : Cond) ∈ am_tbl := am_w 1924 rfl rfl
theorem l_Mod_308 : am_L "StowTongueModel" 308 2 m_Vals_add := ⟨Or.inl w_1921, w_162, w_1924, ⟨by decide, by decide⟩, by decide +kernel, by decide⟩
theorem w_1922 : (Cond.instanceMethod ⟨"StowTongueModel$Values", "add", "(II)V"⟩ : Cond) ∈ am_tbl := am_w 1922 (by decide +kernel) (by decide +kernel)
theorem w_1923 : (Cond.selects "StowTongueModel$Values" ⟨"StowTongueModel$Values", "add", "(II)V"⟩ ⟨"StowTongueModel$Values", "add", "(II)V"⟩ : Cond) ∈ am_tbl := am_w 1923 (by decide +kernel) (by decide +kernel)
theorem d_Mod_join_58 : decode prog_13_method_63_code 58 = .ok (.iinc 3 1, 3) := by decide +kernel
theorem d_Mod_join_61 : decode prog_13_method_63_code 61 = .ok (.goto (-33), 3) := by decide +kernel
theorem d_Mod_join_24 : decode prog_13_method_63_code 24 = .ok (.iconst 4, 1) := by decide +kernel
theorem d_Mod_join_25 : decode prog_13_method_63_code 25 = .ok (.ireturn, 1) := by decide +kernel
abbrev m_Mod_sum_IIJJ : am_M := (⟨"StowTongueModel", "sum", "(IIJJ)I"⟩, prog_13_method_64_code, 9, (some FieldType.int))
theorem d_Mod_sum_IIJJ_0 : decode prog_13_method_64_code 0 = .ok (.iload_n 1, 1) := by decide +kernel
theorem d_Mod_sum_IIJJ_1 : decode prog_13_method_64_code 1 = .ok (.bipush 47, 2) := by decide +kernel
theorem d_Mod_sum_IIJJ_3 : decode prog_13_method_64_code 3 = .ok (.if_icmp .eq 9, 3) := by decide +kernel
theorem d_Mod_sum_IIJJ_12 : decode prog_13_method_64_code 12 = .ok (.lload 5, 2) := by decide +kernel
theorem d_Mod_sum_IIJJ_14 : decode prog_13_method_64_code 14 = .ok (.lconst 0, 1) := by decide +kernel
theorem d_Mod_sum_IIJJ_15 : decode prog_13_method_64_code 15 = .ok (.lcmp, 1) := by decide +kernel
theorem d_Mod_sum_IIJJ_16 : decode prog_13_method_64_code 16 = .ok (.ifCond .ne 5, 3) := by decide +kernel
theorem d_Mod_sum_IIJJ_19 : decode prog_13_method_64_code 19 = .ok (.iconst 5, 1) := by decide +kernel
theorem d_Mod_sum_IIJJ_20 : decode prog_13_method_64_code 20 = .ok (.ireturn, 1) := by decide +kernel
theorem d_Mod_sum_IIJJ_21 : decode prog_13_method_64_code 21 = .ok (.iload_n 1, 1) := by decide +kernel
theorem d_Mod_sum_IIJJ_22 : decode prog_13_method_64_code 22 = .ok (.bipush 43, 2) := by decide +kernel
theorem d_Mod_sum_IIJJ_24 : decode prog_13_method_64_code 24 = .ok (.if_icmp .ne 10, 3) := by decide +kernel
theorem d_Mod_sum_IIJJ_27 : decode prog_13_method_64_code 27 = .ok (.lload_n 3, 1) := by decide +kernel
theorem d_Mod_sum_IIJJ_28 : decode prog_13_method_64_code 28 = .ok (.lload 5, 2) := by decide +kernel
theorem d_Mod_sum_IIJJ_30 : decode prog_13_method_64_code 30 = .ok (.ladd, 1) := by decide +kernel
theorem d_Mod_sum_IIJJ_31 : decode prog_13_method_64_code 31 = .ok (.goto 46, 3) := by decide +kernel
theorem d_Mod_sum_IIJJ_77 : decode prog_13_method_64_code 77 = .ok (.lstore 7, 2) := by decide +kernel
theorem d_Mod_sum_IIJJ_79 : decode prog_13_method_64_code 79 = .ok (.aload_n 0, 1) := by decide +kernel
theorem d_Mod_sum_IIJJ_80 : decode prog_13_method_64_code 80 = .ok (.getfield 368, 3) := by decide +kernel
theorem d_Mod_sum_IIJJ_83 : decode prog_13_method_64_code 83 = .ok (.getfield 508, 3) := by decide +kernel
theorem d_Mod_sum_IIJJ_86 : decode prog_13_method_64_code 86 = .ok (.iload_n 2, 1) := by decide +kernel
theorem d_Mod_sum_IIJJ_87 : decode prog_13_method_64_code 87 = .ok (.lload 7, 2) := by decide +kernel
theorem d_Mod_sum_IIJJ_89 : decode prog_13_method_64_code 89 = .ok (.l2i, 1) := by decide +kernel
theorem d_Mod_sum_IIJJ_90 : decode prog_13_method_64_code 90 = .ok (.i2l, 1) := by decide +kernel
theorem d_Mod_sum_IIJJ_91 : decode prog_13_method_64_code 91 = .ok (.lastore, 1) := by decide +kernel
theorem d_Mod_sum_IIJJ_92 : decode prog_13_method_64_code 92 = .ok (.iconst (-1), 1) := by decide +kernel
theorem d_Mod_sum_IIJJ_93 : decode prog_13_method_64_code 93 = .ok (.ireturn, 1) := by decide +kernel
theorem d_Mod_sum_IIJJ_34 : decode prog_13_method_64_code 34 = .ok (.iload_n 1, 1) := by decide +kernel
theorem d_Mod_sum_IIJJ_35 : decode prog_13_method_64_code 35 = .ok (.bipush 45, 2) := by decide +kernel
theorem d_Mod_sum_IIJJ_37 : decode prog_13_method_64_code 37 = .ok (.if_icmp .ne 10, 3) := by decide +kernel
theorem d_Mod_sum_IIJJ_40 : decode prog_13_method_64_code 40 = .ok (.lload_n 3, 1) := by decide +kernel
theorem d_Mod_sum_IIJJ_41 : decode prog_13_method_64_code 41 = .ok (.lload 5, 2) := by decide +kernel
theorem d_Mod_sum_IIJJ_43 : decode prog_13_method_64_code 43 = .ok (.lsub, 1) := by decide +kernel
theorem d_Mod_sum_IIJJ_44 : decode prog_13_method_64_code 44 = .ok (.goto 33, 3) := by decide +kernel
theorem d_Mod_sum_IIJJ_47 : decode prog_13_method_64_code 47 = .ok (.iload_n 1, 1) := by decide +kernel
theorem d_Mod_sum_IIJJ_48 : decode prog_13_method_64_code 48 = .ok (.bipush 42, 2) := by decide +kernel
theorem d_Mod_sum_IIJJ_50 : decode prog_13_method_64_code 50 = .ok (.if_icmp .ne 10, 3) := by decide +kernel
theorem d_Mod_sum_IIJJ_53 : decode prog_13_method_64_code 53 = .ok (.lload_n 3, 1) := by decide +kernel
theorem d_Mod_sum_IIJJ_54 : decode prog_13_method_64_code 54 = .ok (.lload 5, 2) := by decide +kernel
theorem d_Mod_sum_IIJJ_56 : decode prog_13_method_64_code 56 = .ok (.lmul, 1) := by decide +kernel
theorem d_Mod_sum_IIJJ_57 : decode prog_13_method_64_code 57 = .ok (.goto 20, 3) := by decide +kernel
theorem d_Mod_sum_IIJJ_60 : decode prog_13_method_64_code 60 = .ok (.iload_n 1, 1) := by decide +kernel
theorem d_Mod_sum_IIJJ_61 : decode prog_13_method_64_code 61 = .ok (.bipush 47, 2) := by decide +kernel
theorem d_Mod_sum_IIJJ_63 : decode prog_13_method_64_code 63 = .ok (.if_icmp .ne 10, 3) := by decide +kernel
theorem d_Mod_sum_IIJJ_66 : decode prog_13_method_64_code 66 = .ok (.lload_n 3, 1) := by decide +kernel
theorem d_Mod_sum_IIJJ_67 : decode prog_13_method_64_code 67 = .ok (.lload 5, 2) := by decide +kernel
theorem d_Mod_sum_IIJJ_69 : decode prog_13_method_64_code 69 = .ok (.ldiv, 1) := by decide +kernel
theorem d_Mod_sum_IIJJ_70 : decode prog_13_method_64_code 70 = .ok (.goto 7, 3) := by decide +kernel
theorem d_Mod_sum_IIJJ_73 : decode prog_13_method_64_code 73 = .ok (.lload_n 3, 1) := by decide +kernel
theorem d_Mod_sum_IIJJ_74 : decode prog_13_method_64_code 74 = .ok (.lload 5, 2) := by decide +kernel
theorem d_Mod_sum_IIJJ_76 : decode prog_13_method_64_code 76 = .ok (.lrem, 1) := by decide +kernel
theorem d_Mod_sum_IIJJ_6 : decode prog_13_method_64_code 6 = .ok (.iload_n 1, 1) := by decide +kernel
theorem d_Mod_sum_IIJJ_7 : decode prog_13_method_64_code 7 = .ok (.bipush 37, 2) := by decide +kernel
theorem d_Mod_sum_IIJJ_9 : decode prog_13_method_64_code 9 = .ok (.if_icmp .ne 12, 3) := by decide +kernel
abbrev m_Mod_make : am_M := (⟨"StowTongueModel", "make", "(I)I"⟩, prog_13_method_59_code, 3, (some FieldType.int))
theorem d_Mod_make_0 : decode prog_13_method_59_code 0 = .ok (.aload_n 0, 1) := by decide +kernel
theorem d_Mod_make_1 : decode prog_13_method_59_code 1 = .ok (.getfield 353, 3) := by decide +kernel
theorem d_Mod_make_4 : decode prog_13_method_59_code 4 = .ok (.getfield 578, 3) := by decide +kernel
theorem d_Mod_make_7 : decode prog_13_method_59_code 7 = .ok (.bipush 100, 2) := by decide +kernel
theorem d_Mod_make_9 : decode prog_13_method_59_code 9 = .ok (.if_icmp .ne 5, 3) := by decide +kernel
theorem d_Mod_make_12 : decode prog_13_method_59_code 12 = .ok (.iconst (-1), 1) := by decide +kernel
theorem d_Mod_make_13 : decode prog_13_method_59_code 13 = .ok (.ireturn, 1) := by decide +kernel
theorem d_Mod_make_14 : decode prog_13_method_59_code 14 = .ok (.iconst 0, 1) := by decide +kernel
theorem d_Mod_make_15 : decode prog_13_method_59_code 15 = .ok (.istore_n 2, 1) := by decide +kernel
theorem d_Mod_make_16 : decode prog_13_method_59_code 16 = .ok (.aload_n 0, 1) := by decide +kernel
theorem d_Mod_make_17 : decode prog_13_method_59_code 17 = .ok (.getfield 353, 3) := by decide +kernel
theorem d_Mod_make_20 : decode prog_13_method_59_code 20 = .ok (.getfield 457, 3) := by decide +kernel
theorem d_Mod_make_23 : decode prog_13_method_59_code 23 = .ok (.iload_n 2, 1) := by decide +kernel
theorem d_Mod_make_24 : decode prog_13_method_59_code 24 = .ok (.iaload, 1) := by decide +kernel
theorem d_Mod_make_25 : decode prog_13_method_59_code 25 = .ok (.ifCond .eq 9, 3) := by decide +kernel
theorem d_Mod_make_34 : decode prog_13_method_59_code 34 = .ok (.aload_n 0, 1) := by decide +kernel
theorem d_Mod_make_35 : decode prog_13_method_59_code 35 = .ok (.getfield 353, 3) := by decide +kernel
theorem d_Mod_make_38 : decode prog_13_method_59_code 38 = .ok (.getfield 457, 3) := by decide +kernel
theorem d_Mod_make_41 : decode prog_13_method_59_code 41 = .ok (.iload_n 2, 1) := by decide +kernel
theorem d_Mod_make_42 : decode prog_13_method_59_code 42 = .ok (.iload_n 1, 1) := by decide +kernel
theorem d_Mod_make_43 : decode prog_13_method_59_code 43 = .ok (.iastore, 1) := by decide +kernel
theorem d_Mod_make_44 : decode prog_13_method_59_code 44 = .ok (.aload_n 0, 1) := by decide +kernel
theorem d_Mod_make_45 : decode prog_13_method_59_code 45 = .ok (.getfield 353, 3) := by decide +kernel
theorem d_Mod_make_48 : decode prog_13_method_59_code 48 = .ok (.getfield 558, 3) := by decide +kernel
theorem d_Mod_make_51 : decode prog_13_method_59_code 51 = .ok (.iload_n 2, 1) := by decide +kernel
theorem d_Mod_make_52 : decode prog_13_method_59_code 52 = .ok (.iconst 0, 1) := by decide +kernel
theorem d_Mod_make_53 : decode prog_13_method_59_code 53 = .ok (.iastore, 1) := by decide +kernel
theorem d_Mod_make_54 : decode prog_13_method_59_code 54 = .ok (.aload_n 0, 1) := by decide +kernel
theorem d_Mod_make_55 : decode prog_13_method_59_code 55 = .ok (.getfield 353, 3) := by decide +kernel
theorem d_Mod_make_58 : decode prog_13_method_59_code 58 = .ok (.dup, 1) := by decide +kernel
theorem d_Mod_make_59 : decode prog_13_method_59_code 59 = .ok (.getfield 578, 3) := by decide +kernel
theorem d_Mod_make_62 : decode prog_13_method_59_code 62 = .ok (.iconst 1, 1) := by decide +kernel
theorem d_Mod_make_63 : decode prog_13_method_59_code 63 = .ok (.iadd, 1) := by decide +kernel
theorem d_Mod_make_64 : decode prog_13_method_59_code 64 = .ok (.putfield 578, 3) := by decide +kernel
theorem d_Mod_make_67 : decode prog_13_method_59_code 67 = .ok (.iload_n 2, 1) := by decide +kernel
theorem d_Mod_make_68 : decode prog_13_method_59_code 68 = .ok (.ireturn, 1) := by decide +kernel
theorem d_Mod_make_28 : decode prog_13_method_59_code 28 = .ok (.iinc 2 1, 3) := by decide +kernel
theorem d_Mod_make_31 : decode prog_13_method_59_code 31 = .ok (.goto (-15), 3) := by decide +kernel
abbrev m_State_isSame : am_M := (⟨"StowTongueModel$State", "isSame", "(ILStowTongueModel$State;)Z"⟩, prog_15_method_6_code, 5, (some FieldType.boolean))
theorem d_State_isSame_0 : decode prog_15_method_6_code 0 = .ok (.aload_n 0, 1) := by decide +kernel
theorem d_State_isSame_1 : decode prog_15_method_6_code 1 = .ok (.getfield 9, 3) := by decide +kernel
theorem d_State_isSame_4 : decode prog_15_method_6_code 4 = .ok (.iload_n 1, 1) := by decide +kernel
theorem d_State_isSame_5 : decode prog_15_method_6_code 5 = .ok (.iaload, 1) := by decide +kernel
theorem d_State_isSame_6 : decode prog_15_method_6_code 6 = .ok (.aload_n 2, 1) := by decide +kernel
theorem d_State_isSame_7 : decode prog_15_method_6_code 7 = .ok (.getfield 9, 3) := by decide +kernel
theorem d_State_isSame_10 : decode prog_15_method_6_code 10 = .ok (.iload_n 1, 1) := by decide +kernel
theorem d_State_isSame_11 : decode prog_15_method_6_code 11 = .ok (.iaload, 1) := by decide +kernel
theorem d_State_isSame_12 : decode prog_15_method_6_code 12 = .ok (.if_icmp .ne 22, 3) := by decide +kernel
theorem d_State_isSame_15 : decode prog_15_method_6_code 15 = .ok (.aload_n 0, 1) := by decide +kernel
theorem d_State_isSame_16 : decode prog_15_method_6_code 16 = .ok (.getfield 15, 3) := by decide +kernel
theorem d_State_isSame_19 : decode prog_15_method_6_code 19 = .ok (.iload_n 1, 1) := by decide +kernel
theorem d_State_isSame_20 : decode prog_15_method_6_code 20 = .ok (.iaload, 1) := by decide +kernel
theorem d_State_isSame_21 : decode prog_15_method_6_code 21 = .ok (.aload_n 2, 1) := by decide +kernel
theorem d_State_isSame_22 : decode prog_15_method_6_code 22 = .ok (.getfield 15, 3) := by decide +kernel
theorem d_State_isSame_25 : decode prog_15_method_6_code 25 = .ok (.iload_n 1, 1) := by decide +kernel
theorem d_State_isSame_26 : decode prog_15_method_6_code 26 = .ok (.iaload, 1) := by decide +kernel
theorem d_State_isSame_27 : decode prog_15_method_6_code 27 = .ok (.if_icmp .ne 7, 3) := by decide +kernel
theorem d_State_isSame_30 : decode prog_15_method_6_code 30 = .ok (.iconst 1, 1) := by decide +kernel
theorem d_State_isSame_31 : decode prog_15_method_6_code 31 = .ok (.goto 4, 3) := by decide +kernel
theorem d_State_isSame_35 : decode prog_15_method_6_code 35 = .ok (.istore_n 3, 1) := by decide +kernel
theorem d_State_isSame_36 : decode prog_15_method_6_code 36 = .ok (.iconst 0, 1) := by decide +kernel
theorem d_State_isSame_37 : decode prog_15_method_6_code 37 = .ok (.istore 4, 2) := by decide +kernel
theorem d_State_isSame_39 : decode prog_15_method_6_code 39 = .ok (.iload 4, 2) := by decide +kernel
theorem d_State_isSame_41 : decode prog_15_method_6_code 41 = .ok (.aload_n 0, 1) := by decide +kernel
theorem d_State_isSame_42 : decode prog_15_method_6_code 42 = .ok (.getfield 15, 3) := by decide +kernel
theorem d_State_isSame_45 : decode prog_15_method_6_code 45 = .ok (.iload_n 1, 1) := by decide +kernel
theorem d_State_isSame_46 : decode prog_15_method_6_code 46 = .ok (.iaload, 1) := by decide +kernel
theorem d_State_isSame_47 : decode prog_15_method_6_code 47 = .ok (.if_icmp .ge 85, 3) := by decide +kernel
theorem d_State_isSame_132 : decode prog_15_method_6_code 132 = .ok (.iload_n 3, 1) := by decide +kernel
theorem d_State_isSame_133 : decode prog_15_method_6_code 133 = .ok (.ireturn, 1) := by decide +kernel
theorem d_State_isSame_50 : decode prog_15_method_6_code 50 = .ok (.iload_n 3, 1) := by decide +kernel
theorem d_State_isSame_51 : decode prog_15_method_6_code 51 = .ok (.ifCond .eq 81, 3) := by decide +kernel
theorem d_State_isSame_54 : decode prog_15_method_6_code 54 = .ok (.aload_n 0, 1) := by decide +kernel
theorem d_State_isSame_55 : decode prog_15_method_6_code 55 = .ok (.getfield 33, 3) := by decide +kernel
theorem d_State_isSame_58 : decode prog_15_method_6_code 58 = .ok (.bipush 20, 2) := by decide +kernel
theorem d_State_isSame_60 : decode prog_15_method_6_code 60 = .ok (.iload_n 1, 1) := by decide +kernel
theorem d_State_isSame_61 : decode prog_15_method_6_code 61 = .ok (.imul, 1) := by decide +kernel
theorem d_State_isSame_62 : decode prog_15_method_6_code 62 = .ok (.iload 4, 2) := by decide +kernel
theorem d_State_isSame_64 : decode prog_15_method_6_code 64 = .ok (.iadd, 1) := by decide +kernel
theorem d_State_isSame_65 : decode prog_15_method_6_code 65 = .ok (.aload_n 2, 1) := by decide +kernel
theorem d_State_isSame_66 : decode prog_15_method_6_code 66 = .ok (.getfield 33, 3) := by decide +kernel
theorem d_State_isSame_69 : decode prog_15_method_6_code 69 = .ok (.bipush 20, 2) := by decide +kernel
theorem d_State_isSame_71 : decode prog_15_method_6_code 71 = .ok (.iload_n 1, 1) := by decide +kernel
theorem d_State_isSame_72 : decode prog_15_method_6_code 72 = .ok (.imul, 1) := by decide +kernel
theorem d_State_isSame_73 : decode prog_15_method_6_code 73 = .ok (.iload 4, 2) := by decide +kernel
theorem d_State_isSame_75 : decode prog_15_method_6_code 75 = .ok (.iadd, 1) := by decide +kernel
theorem d_State_isSame_76 : decode prog_15_method_6_code 76 = .ok (.invokevirtual 74, 3) := by decide +kernel
theorem w_2137 : (Cond.methodLink "StowTongueModel$State" 74 ⟨"StowTongueModel$Values", "isLike", "(ILStowTongueModel$Values;I)Z"⟩ : Cond) ∈ am_tbl := am_w 2137 (by decide +kernel) (by decide +kernel)
set_option maxRecDepth 100000 in
theorem w_2111 : (Cond.code ⟨"StowTongueModel$Values", "isLike", "(ILStowTongueModel$Values;I)Z"⟩ prog_16_method_4_code 4 (some FieldType.boolean) : Cond) ∈ am_tbl := am_w 2111 rfl rfl
theorem l_State_74 : am_L "StowTongueModel$State" 74 3 m_Vals_isLike := ⟨Or.inl w_2137, w_162, w_2111, ⟨by decide, by decide⟩, by decide +kernel, by decide⟩
theorem w_2109 : (Cond.instanceMethod ⟨"StowTongueModel$Values", "isLike", "(ILStowTongueModel$Values;I)Z"⟩ : Cond) ∈ am_tbl := am_w 2109 (by decide +kernel) (by decide +kernel)
theorem w_2110 : (Cond.selects "StowTongueModel$Values" ⟨"StowTongueModel$Values", "isLike", "(ILStowTongueModel$Values;I)Z"⟩ ⟨"StowTongueModel$Values", "isLike", "(ILStowTongueModel$Values;I)Z"⟩ : Cond) ∈ am_tbl := am_w 2110 (by decide +kernel) (by decide +kernel)
theorem d_State_isSame_79 : decode prog_15_method_6_code 79 = .ok (.ifCond .eq 45, 3) := by decide +kernel
theorem d_State_isSame_124 : decode prog_15_method_6_code 124 = .ok (.iconst 0, 1) := by decide +kernel
theorem d_State_isSame_125 : decode prog_15_method_6_code 125 = .ok (.istore_n 3, 1) := by decide +kernel
theorem d_State_isSame_126 : decode prog_15_method_6_code 126 = .ok (.iinc 4 1, 3) := by decide +kernel
theorem d_State_isSame_129 : decode prog_15_method_6_code 129 = .ok (.goto (-90), 3) := by decide +kernel
theorem d_State_isSame_82 : decode prog_15_method_6_code 82 = .ok (.aload_n 0, 1) := by decide +kernel
theorem d_State_isSame_83 : decode prog_15_method_6_code 83 = .ok (.getfield 9, 3) := by decide +kernel
theorem d_State_isSame_86 : decode prog_15_method_6_code 86 = .ok (.iload_n 1, 1) := by decide +kernel
theorem d_State_isSame_87 : decode prog_15_method_6_code 87 = .ok (.iaload, 1) := by decide +kernel
theorem d_State_isSame_88 : decode prog_15_method_6_code 88 = .ok (.iconst 4, 1) := by decide +kernel
theorem d_State_isSame_89 : decode prog_15_method_6_code 89 = .ok (.if_icmp .eq 31, 3) := by decide +kernel
theorem d_State_isSame_120 : decode prog_15_method_6_code 120 = .ok (.iconst 1, 1) := by decide +kernel
theorem d_State_isSame_121 : decode prog_15_method_6_code 121 = .ok (.goto 4, 3) := by decide +kernel
theorem d_State_isSame_92 : decode prog_15_method_6_code 92 = .ok (.aload_n 0, 1) := by decide +kernel
theorem d_State_isSame_93 : decode prog_15_method_6_code 93 = .ok (.getfield 18, 3) := by decide +kernel
theorem d_State_isSame_96 : decode prog_15_method_6_code 96 = .ok (.bipush 8, 2) := by decide +kernel
theorem d_State_isSame_98 : decode prog_15_method_6_code 98 = .ok (.iload_n 1, 1) := by decide +kernel
theorem d_State_isSame_99 : decode prog_15_method_6_code 99 = .ok (.imul, 1) := by decide +kernel
theorem d_State_isSame_100 : decode prog_15_method_6_code 100 = .ok (.iload 4, 2) := by decide +kernel
theorem d_State_isSame_102 : decode prog_15_method_6_code 102 = .ok (.iadd, 1) := by decide +kernel
theorem d_State_isSame_103 : decode prog_15_method_6_code 103 = .ok (.laload, 1) := by decide +kernel
theorem d_State_isSame_104 : decode prog_15_method_6_code 104 = .ok (.aload_n 2, 1) := by decide +kernel
theorem d_State_isSame_105 : decode prog_15_method_6_code 105 = .ok (.getfield 18, 3) := by decide +kernel
theorem d_State_isSame_108 : decode prog_15_method_6_code 108 = .ok (.bipush 8, 2) := by decide +kernel
theorem d_State_isSame_110 : decode prog_15_method_6_code 110 = .ok (.iload_n 1, 1) := by decide +kernel
theorem d_State_isSame_111 : decode prog_15_method_6_code 111 = .ok (.imul, 1) := by decide +kernel
theorem d_State_isSame_112 : decode prog_15_method_6_code 112 = .ok (.iload 4, 2) := by decide +kernel
theorem d_State_isSame_114 : decode prog_15_method_6_code 114 = .ok (.iadd, 1) := by decide +kernel
theorem d_State_isSame_115 : decode prog_15_method_6_code 115 = .ok (.laload, 1) := by decide +kernel
theorem d_State_isSame_116 : decode prog_15_method_6_code 116 = .ok (.lcmp, 1) := by decide +kernel
theorem d_State_isSame_117 : decode prog_15_method_6_code 117 = .ok (.ifCond .ne 7, 3) := by decide +kernel
theorem d_State_isSame_34 : decode prog_15_method_6_code 34 = .ok (.iconst 0, 1) := by decide +kernel
abbrev m_Mod_reach : am_M := (⟨"StowTongueModel", "reach", "(IJ)V"⟩, prog_13_method_69_code, 4, none)
theorem d_Mod_reach_0 : decode prog_13_method_69_code 0 = .ok (.iload_n 1, 1) := by decide +kernel
theorem d_Mod_reach_1 : decode prog_13_method_69_code 1 = .ok (.iconst 3, 1) := by decide +kernel
theorem d_Mod_reach_2 : decode prog_13_method_69_code 2 = .ok (.if_icmp .lt 13, 3) := by decide +kernel
theorem d_Mod_reach_15 : decode prog_13_method_69_code 15 = .ok (.return_, 1) := by decide +kernel
theorem d_Mod_reach_5 : decode prog_13_method_69_code 5 = .ok (.aload_n 0, 1) := by decide +kernel
theorem d_Mod_reach_6 : decode prog_13_method_69_code 6 = .ok (.getfield 389, 3) := by decide +kernel
theorem d_Mod_reach_9 : decode prog_13_method_69_code 9 = .ok (.lload_n 2, 1) := by decide +kernel
theorem d_Mod_reach_10 : decode prog_13_method_69_code 10 = .ok (.l2i, 1) := by decide +kernel
theorem d_Mod_reach_11 : decode prog_13_method_69_code 11 = .ok (.baload, 1) := by decide +kernel
theorem d_Mod_reach_12 : decode prog_13_method_69_code 12 = .ok (.ifCond .eq 4, 3) := by decide +kernel
theorem d_Mod_reach_16 : decode prog_13_method_69_code 16 = .ok (.aload_n 0, 1) := by decide +kernel
theorem d_Mod_reach_17 : decode prog_13_method_69_code 17 = .ok (.getfield 389, 3) := by decide +kernel
theorem d_Mod_reach_20 : decode prog_13_method_69_code 20 = .ok (.lload_n 2, 1) := by decide +kernel
theorem d_Mod_reach_21 : decode prog_13_method_69_code 21 = .ok (.l2i, 1) := by decide +kernel
theorem d_Mod_reach_22 : decode prog_13_method_69_code 22 = .ok (.iconst 1, 1) := by decide +kernel
theorem d_Mod_reach_23 : decode prog_13_method_69_code 23 = .ok (.bastore, 1) := by decide +kernel
theorem d_Mod_reach_24 : decode prog_13_method_69_code 24 = .ok (.aload_n 0, 1) := by decide +kernel
theorem d_Mod_reach_25 : decode prog_13_method_69_code 25 = .ok (.getfield 393, 3) := by decide +kernel
theorem d_Mod_reach_28 : decode prog_13_method_69_code 28 = .ok (.aload_n 0, 1) := by decide +kernel
theorem d_Mod_reach_29 : decode prog_13_method_69_code 29 = .ok (.getfield 604, 3) := by decide +kernel
theorem d_Mod_reach_32 : decode prog_13_method_69_code 32 = .ok (.lload_n 2, 1) := by decide +kernel
theorem d_Mod_reach_33 : decode prog_13_method_69_code 33 = .ok (.l2i, 1) := by decide +kernel
theorem d_Mod_reach_34 : decode prog_13_method_69_code 34 = .ok (.iastore, 1) := by decide +kernel
theorem d_Mod_reach_35 : decode prog_13_method_69_code 35 = .ok (.aload_n 0, 1) := by decide +kernel
theorem d_Mod_reach_36 : decode prog_13_method_69_code 36 = .ok (.dup, 1) := by decide +kernel
theorem d_Mod_reach_37 : decode prog_13_method_69_code 37 = .ok (.getfield 604, 3) := by decide +kernel
theorem d_Mod_reach_40 : decode prog_13_method_69_code 40 = .ok (.iconst 1, 1) := by decide +kernel
theorem d_Mod_reach_41 : decode prog_13_method_69_code 41 = .ok (.iadd, 1) := by decide +kernel
theorem d_Mod_reach_42 : decode prog_13_method_69_code 42 = .ok (.putfield 604, 3) := by decide +kernel
theorem d_Mod_reach_45 : decode prog_13_method_69_code 45 = .ok (.return_, 1) := by decide +kernel
theorem d_Mod_value__44 : decode prog_13_method_71_code 44 = .ok (.aload_n 0, 1) := by decide +kernel
theorem d_Mod_value__45 : decode prog_13_method_71_code 45 = .ok (.getfield 374, 3) := by decide +kernel
theorem d_Mod_value__48 : decode prog_13_method_71_code 48 = .ok (.getfield 508, 3) := by decide +kernel
theorem d_Mod_value__51 : decode prog_13_method_71_code 51 = .ok (.iconst 0, 1) := by decide +kernel
theorem d_Mod_value__52 : decode prog_13_method_71_code 52 = .ok (.laload, 1) := by decide +kernel
theorem d_Mod_value__53 : decode prog_13_method_71_code 53 = .ok (.lreturn, 1) := by decide +kernel
theorem d_Mod_value__54 : decode prog_13_method_71_code 54 = .ok (.aload_n 0, 1) := by decide +kernel
theorem d_Mod_value__55 : decode prog_13_method_71_code 55 = .ok (.iconst 0, 1) := by decide +kernel
theorem d_Mod_value__56 : decode prog_13_method_71_code 56 = .ok (.putfield 440, 3) := by decide +kernel
theorem d_Mod_value__59 : decode prog_13_method_71_code 59 = .ok (.iconst 0, 1) := by decide +kernel
theorem d_Mod_value__60 : decode prog_13_method_71_code 60 = .ok (.istore_n 1, 1) := by decide +kernel
theorem d_Mod_value__61 : decode prog_13_method_71_code 61 = .ok (.iload_n 1, 1) := by decide +kernel
theorem d_Mod_value__62 : decode prog_13_method_71_code 62 = .ok (.aload_n 0, 1) := by decide +kernel
theorem d_Mod_value__63 : decode prog_13_method_71_code 63 = .ok (.getfield 374, 3) := by decide +kernel
theorem d_Mod_value__66 : decode prog_13_method_71_code 66 = .ok (.getfield 565, 3) := by decide +kernel
theorem d_Mod_value__69 : decode prog_13_method_71_code 69 = .ok (.iconst 0, 1) := by decide +kernel
theorem d_Mod_value__70 : decode prog_13_method_71_code 70 = .ok (.iaload, 1) := by decide +kernel
theorem d_Mod_value__71 : decode prog_13_method_71_code 71 = .ok (.if_icmp .ge 23, 3) := by decide +kernel
theorem d_Mod_value__94 : decode prog_13_method_71_code 94 = .ok (.ldc2_w 616, 3) := by decide +kernel
theorem w_2165 : (Cond.constantLong "StowTongueModel" 616 1099511627777 : Cond) ∈ am_tbl := am_w 2165 (by decide +kernel) (by decide +kernel)
theorem d_Mod_value__97 : decode prog_13_method_71_code 97 = .ok (.lreturn, 1) := by decide +kernel
theorem d_Mod_value__74 : decode prog_13_method_71_code 74 = .ok (.aload_n 0, 1) := by decide +kernel
theorem d_Mod_value__75 : decode prog_13_method_71_code 75 = .ok (.aload_n 0, 1) := by decide +kernel
theorem d_Mod_value__76 : decode prog_13_method_71_code 76 = .ok (.getfield 374, 3) := by decide +kernel
theorem d_Mod_value__79 : decode prog_13_method_71_code 79 = .ok (.iconst 0, 1) := by decide +kernel
theorem d_Mod_value__80 : decode prog_13_method_71_code 80 = .ok (.iload_n 1, 1) := by decide +kernel
theorem d_Mod_value__81 : decode prog_13_method_71_code 81 = .ok (.invokevirtual 574, 3) := by decide +kernel
theorem d_Mod_value__84 : decode prog_13_method_71_code 84 = .ok (.invokevirtual 599, 3) := by decide +kernel
theorem w_2067 : (Cond.methodLink "StowTongueModel" 599 ⟨"StowTongueModel", "say", "(I)Z"⟩ : Cond) ∈ am_tbl := am_w 2067 (by decide +kernel) (by decide +kernel)
set_option maxRecDepth 100000 in
theorem w_2070 : (Cond.code ⟨"StowTongueModel", "say", "(I)Z"⟩ prog_13_method_66_code 2 (some FieldType.boolean) : Cond) ∈ am_tbl := am_w 2070 rfl rfl
theorem l_Mod_599 : am_L "StowTongueModel" 599 1 m_Mod_say := ⟨Or.inl w_2067, w_160, w_2070, ⟨by decide, by decide⟩, by decide +kernel, by decide⟩
theorem w_2069 : (Cond.instanceMethod ⟨"StowTongueModel", "say", "(I)Z"⟩ : Cond) ∈ am_tbl := am_w 2069 (by decide +kernel) (by decide +kernel)
theorem w_127 : (Cond.selects "StowTongueModel" ⟨"StowTongueModel", "say", "(I)Z"⟩ ⟨"StowTongueModel", "say", "(I)Z"⟩ : Cond) ∈ am_tbl := am_w 127 (by decide +kernel) (by decide +kernel)
theorem d_Mod_value__87 : decode prog_13_method_71_code 87 = .ok (.pop, 1) := by decide +kernel
theorem d_Mod_value__88 : decode prog_13_method_71_code 88 = .ok (.iinc 1 1, 3) := by decide +kernel
theorem d_Mod_value__91 : decode prog_13_method_71_code 91 = .ok (.goto (-30), 3) := by decide +kernel
theorem d_Mod_value__98 : decode prog_13_method_71_code 98 = .ok (.ldc2_w 618, 3) := by decide +kernel
theorem w_2166 : (Cond.constantLong "StowTongueModel" 618 1099511627778 : Cond) ∈ am_tbl := am_w 2166 (by decide +kernel) (by decide +kernel)
theorem d_Mod_value__101 : decode prog_13_method_71_code 101 = .ok (.lreturn, 1) := by decide +kernel
theorem d_Mod_value__102 : decode prog_13_method_71_code 102 = .ok (.ldc2_w 620, 3) := by decide +kernel
theorem w_2167 : (Cond.constantLong "StowTongueModel" 620 1099511627779 : Cond) ∈ am_tbl := am_w 2167 (by decide +kernel) (by decide +kernel)
theorem d_Mod_value__105 : decode prog_13_method_71_code 105 = .ok (.lreturn, 1) := by decide +kernel
